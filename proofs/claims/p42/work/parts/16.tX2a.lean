theorem dX2_init_0 : decode cX2_init 0 = .ok (.aload_n 0, 1) := by decide +kernel
theorem dX2_init_1 : decode cX2_init 1 = .ok (.invokespecial 3, 3) := by decide +kernel
theorem dX2_init_4 : decode cX2_init 4 = .ok (.aload_n 0, 1) := by decide +kernel
theorem dX2_init_5 : decode cX2_init 5 = .ok (.sipush 400, 3) := by decide +kernel
theorem dX2_init_8 : decode cX2_init 8 = .ok (.newarray .int, 2) := by decide +kernel
theorem dX2_init_10 : decode cX2_init 10 = .ok (.putfield 9, 3) := by decide +kernel
theorem dX2_init_13 : decode cX2_init 13 = .ok (.return_, 1) := by decide +kernel
section T
variable {G : GT} {d : Nat} {S : List Value} {h : AH} {P : OC → AH → Prop} {x0 x1 x2 x3 x4 x5 x6 x7 x8 x9 x10 x11 x12 x13 x14 x15 : Option Value}
theorem tX2_init_0 {k : Nat} (r : RQ G mX2_init d 1 [some (.ref k)] (.ref k :: S) (h) P) : RQ G mX2_init d 0 [some (.ref k)] (S) h P := q_aload_n (M := mX2_init) (pc := 0) (r0 := some k) dX2_init_0 rfl rfl r
theorem tX2_init_1 {b : Nat} (hd : 1 ≤ d) (hst : (S.map fun v => v.category).sum ≤ 8 := by exact Nat.le_of_ble_eq_true rfl) (r : RQ G mX2_init d 4 [x0] (S) (h) P) : RQ G mX2_init d 1 [x0] (.ref b :: S) h P := q_objInit (M := mX2_init) (pc := 1) dX2_init_1 w348 w83 w84 hd hst r
theorem tX2_init_4 {k : Nat} (r : RQ G mX2_init d 5 [some (.ref k)] (.ref k :: S) (h) P) : RQ G mX2_init d 4 [some (.ref k)] (S) h P := q_aload_n (M := mX2_init) (pc := 4) (r0 := some k) dX2_init_4 rfl rfl r
theorem tX2_init_5 (r : RQ G mX2_init d 8 [x0] (.int (nI 400) :: S) (h) P) : RQ G mX2_init d 5 [x0] (S) h P := q_sipush (M := mX2_init) (pc := 5) dX2_init_5 (by decide) r
theorem tX2_init_8 {n : Nat} {x : Int32} (hx : x = nI n) (hn : n < 60000000) (r : RQ G mX2_init d 10 [x0] (.ref h.1 :: S) (hnew h n (.inl (0, n, .inl (fun _ => 0)))) P) : RQ G mX2_init d 8 [x0] (.int x :: S) h P := q_newaI (M := mX2_init) (pc := 8) dX2_init_8 w128 hx hn r
theorem tX2_init_10 {i : Nat} {vs : List Value} {v : Nat} (ha : At h i (.inr (1, vs))) (hlen : vs.length = 3) (r : RQ G mX2_init d 13 [x0] (S) (hset h i (.inr (1, vs.set 0 (.ref v)))) P) : RQ G mX2_init d 10 [x0] (.ref v :: .ref i :: S) h P := q_putF (M := mX2_init) (pc := 10) (kf := 0) (host := "") dX2_init_10 (show CL[1]? = some (RX2, TX2, 3) from rfl) inA2 tyX2_ok nmX2 (by decide) rfl w349 rfl rfl rfl (tyX2_ok 0 (by decide)) (nfit_arr _ v) (by rw [hlen]; decide) ha r
theorem tX2_init_13 (hP : P (.inl none) h) : RQ G mX2_init d 13 [x0] ([]) h P := q_return (M := mX2_init) (pc := 13) dX2_init_13 rfl hP
end T
theorem dX2_spendDay_0 : decode cX2_spendDay 0 = .ok (.aload_n 0, 1) := by decide +kernel
theorem dX2_spendDay_1 : decode cX2_spendDay 1 = .ok (.iconst 0, 1) := by decide +kernel
theorem dX2_spendDay_2 : decode cX2_spendDay 2 = .ok (.putfield 15, 3) := by decide +kernel
theorem dX2_spendDay_5 : decode cX2_spendDay 5 = .ok (.iconst 0, 1) := by decide +kernel
theorem dX2_spendDay_6 : decode cX2_spendDay 6 = .ok (.istore_n 3, 1) := by decide +kernel
theorem dX2_spendDay_7 : decode cX2_spendDay 7 = .ok (.iload_n 3, 1) := by decide +kernel
theorem dX2_spendDay_8 : decode cX2_spendDay 8 = .ok (.aload_n 1, 1) := by decide +kernel
theorem dX2_spendDay_9 : decode cX2_spendDay 9 = .ok (.getfield 19, 3) := by decide +kernel
theorem dX2_spendDay_12 : decode cX2_spendDay 12 = .ok (.if_icmp .ge 51, 3) := by decide +kernel
theorem dX2_spendDay_15 : decode cX2_spendDay 15 = .ok (.aload_n 0, 1) := by decide +kernel
theorem dX2_spendDay_16 : decode cX2_spendDay 16 = .ok (.aload_n 1, 1) := by decide +kernel
theorem dX2_spendDay_17 : decode cX2_spendDay 17 = .ok (.aload_n 2, 1) := by decide +kernel
theorem dX2_spendDay_18 : decode cX2_spendDay 18 = .ok (.iload_n 3, 1) := by decide +kernel
theorem dX2_spendDay_19 : decode cX2_spendDay 19 = .ok (.invokevirtual 24, 3) := by decide +kernel
theorem dX2_spendDay_22 : decode cX2_spendDay 22 = .ok (.istore 4, 2) := by decide +kernel
theorem dX2_spendDay_24 : decode cX2_spendDay 24 = .ok (.iload 4, 2) := by decide +kernel
theorem dX2_spendDay_26 : decode cX2_spendDay 26 = .ok (.iconst (-1), 1) := by decide +kernel
theorem dX2_spendDay_27 : decode cX2_spendDay 27 = .ok (.if_icmp .eq 30, 3) := by decide +kernel
theorem dX2_spendDay_30 : decode cX2_spendDay 30 = .ok (.aload_n 0, 1) := by decide +kernel
theorem dX2_spendDay_31 : decode cX2_spendDay 31 = .ok (.aload_n 1, 1) := by decide +kernel
theorem dX2_spendDay_32 : decode cX2_spendDay 32 = .ok (.aload_n 2, 1) := by decide +kernel
theorem dX2_spendDay_33 : decode cX2_spendDay 33 = .ok (.iload_n 3, 1) := by decide +kernel
theorem dX2_spendDay_34 : decode cX2_spendDay 34 = .ok (.aload_n 1, 1) := by decide +kernel
theorem dX2_spendDay_35 : decode cX2_spendDay 35 = .ok (.getfield 28, 3) := by decide +kernel
theorem dX2_spendDay_38 : decode cX2_spendDay 38 = .ok (.getfield 32, 3) := by decide +kernel
theorem dX2_spendDay_41 : decode cX2_spendDay 41 = .ok (.iload 4, 2) := by decide +kernel
theorem dX2_spendDay_43 : decode cX2_spendDay 43 = .ok (.iaload, 1) := by decide +kernel
theorem dX2_spendDay_44 : decode cX2_spendDay 44 = .ok (.aload_n 1, 1) := by decide +kernel
theorem dX2_spendDay_45 : decode cX2_spendDay 45 = .ok (.getfield 28, 3) := by decide +kernel
theorem dX2_spendDay_48 : decode cX2_spendDay 48 = .ok (.getfield 37, 3) := by decide +kernel
theorem dX2_spendDay_51 : decode cX2_spendDay 51 = .ok (.iload 4, 2) := by decide +kernel
theorem dX2_spendDay_53 : decode cX2_spendDay 53 = .ok (.iaload, 1) := by decide +kernel
theorem dX2_spendDay_54 : decode cX2_spendDay 54 = .ok (.invokevirtual 40, 3) := by decide +kernel
theorem dX2_spendDay_57 : decode cX2_spendDay 57 = .ok (.iinc 3 1, 3) := by decide +kernel
theorem dX2_spendDay_60 : decode cX2_spendDay 60 = .ok (.goto (-53), 3) := by decide +kernel
theorem dX2_spendDay_63 : decode cX2_spendDay 63 = .ok (.aload_n 2, 1) := by decide +kernel
theorem dX2_spendDay_64 : decode cX2_spendDay 64 = .ok (.dup, 1) := by decide +kernel
theorem dX2_spendDay_65 : decode cX2_spendDay 65 = .ok (.getfield 44, 3) := by decide +kernel
theorem dX2_spendDay_68 : decode cX2_spendDay 68 = .ok (.iconst 1, 1) := by decide +kernel
theorem dX2_spendDay_69 : decode cX2_spendDay 69 = .ok (.iadd, 1) := by decide +kernel
theorem dX2_spendDay_70 : decode cX2_spendDay 70 = .ok (.putfield 44, 3) := by decide +kernel
theorem dX2_spendDay_73 : decode cX2_spendDay 73 = .ok (.aload_n 0, 1) := by decide +kernel
theorem dX2_spendDay_74 : decode cX2_spendDay 74 = .ok (.getfield 15, 3) := by decide +kernel
theorem dX2_spendDay_77 : decode cX2_spendDay 77 = .ok (.ireturn, 1) := by decide +kernel
section T
variable {G : GT} {d : Nat} {S : List Value} {h : AH} {P : OC → AH → Prop} {x0 x1 x2 x3 x4 x5 x6 x7 x8 x9 x10 x11 x12 x13 x14 x15 : Option Value}
theorem tX2_spendDay_0 {k : Nat} (r : RQ G mX2_spendDay d 1 [some (.ref k), x1, x2, x3, x4] (.ref k :: S) (h) P) : RQ G mX2_spendDay d 0 [some (.ref k), x1, x2, x3, x4] (S) h P := q_aload_n (M := mX2_spendDay) (pc := 0) (r0 := some k) dX2_spendDay_0 rfl rfl r
theorem tX2_spendDay_1 (r : RQ G mX2_spendDay d 2 [x0, x1, x2, x3, x4] (.int (nI 0) :: S) (h) P) : RQ G mX2_spendDay d 1 [x0, x1, x2, x3, x4] (S) h P := q_iconst (M := mX2_spendDay) (pc := 1) dX2_spendDay_1 (by decide) r
theorem tX2_spendDay_2 {i : Nat} {vs : List Value} {v : Int32} (ha : At h i (.inr (1, vs))) (hlen : vs.length = 3) (r : RQ G mX2_spendDay d 5 [x0, x1, x2, x3, x4] (S) (hset h i (.inr (1, vs.set 2 (.int v)))) P) : RQ G mX2_spendDay d 2 [x0, x1, x2, x3, x4] (.int v :: .ref i :: S) h P := q_put (M := mX2_spendDay) (pc := 2) (kf := 2) (host := "") dX2_spendDay_2 (show CL[1]? = some (RX2, TX2, 3) from rfl) inA2 tyX2_ok nmX2 (by decide) rfl w351 rfl (tyX2_ok 2 (by decide)) (nfit_int v) (by rw [hlen]; decide) ha r
theorem tX2_spendDay_5 (r : RQ G mX2_spendDay d 6 [x0, x1, x2, x3, x4] (.int (nI 0) :: S) (h) P) : RQ G mX2_spendDay d 5 [x0, x1, x2, x3, x4] (S) h P := q_iconst (M := mX2_spendDay) (pc := 5) dX2_spendDay_5 (by decide) r
theorem tX2_spendDay_6 {v : Int32} (ho : ok1 x2 = true := by rfl) (r : RQ G mX2_spendDay d 7 [x0, x1, x2, some (.int v), x4] (S) (h) P) : RQ G mX2_spendDay d 6 [x0, x1, x2, x3, x4] (.int v :: S) h P := q_istore_n (M := mX2_spendDay) (pc := 6) dX2_spendDay_6 rfl (Nat.le_of_ble_eq_true rfl) ho r
theorem tX2_spendDay_7 {v : Int32} (r : RQ G mX2_spendDay d 8 [x0, x1, x2, some (.int v), x4] (.int v :: S) (h) P) : RQ G mX2_spendDay d 7 [x0, x1, x2, some (.int v), x4] (S) h P := q_iload_n (M := mX2_spendDay) (pc := 7) dX2_spendDay_7 rfl rfl r
theorem tX2_spendDay_8 {k : Nat} (r : RQ G mX2_spendDay d 9 [x0, some (.ref k), x2, x3, x4] (.ref k :: S) (h) P) : RQ G mX2_spendDay d 8 [x0, some (.ref k), x2, x3, x4] (S) h P := q_aload_n (M := mX2_spendDay) (pc := 8) (r0 := some k) dX2_spendDay_8 rfl rfl r
theorem tX2_spendDay_9 {i : Nat} {vs : List Value} {v : Value} (ha : At h i (.inr (0, vs))) (hv : vs[10]? = some v) (r : RQ G mX2_spendDay d 12 [x0, x1, x2, x3, x4] (v :: S) (h) P) : RQ G mX2_spendDay d 9 [x0, x1, x2, x3, x4] (.ref i :: S) h P := q_getN (M := mX2_spendDay) (pc := 9) (kf := 10) dX2_spendDay_9 (show CL[0]? = some (RX1, TX1, 11) from rfl) inA1 (by decide) rfl v289 ha hv r
theorem tX2_spendDay_12 {x y : Int32} (kt : y ≤ x → RQ G mX2_spendDay d 63 [x0, x1, x2, x3, x4] S h P) (kf : ¬ y ≤ x → RQ G mX2_spendDay d 15 [x0, x1, x2, x3, x4] S h P) : RQ G mX2_spendDay d 12 [x0, x1, x2, x3, x4] (.int y :: .int x :: S) h P := q_icmp_ge (M := mX2_spendDay) (pc := 12) dX2_spendDay_12 (by decide) kt kf
theorem tX2_spendDay_15 {k : Nat} (r : RQ G mX2_spendDay d 16 [some (.ref k), x1, x2, x3, x4] (.ref k :: S) (h) P) : RQ G mX2_spendDay d 15 [some (.ref k), x1, x2, x3, x4] (S) h P := q_aload_n (M := mX2_spendDay) (pc := 15) (r0 := some k) dX2_spendDay_15 rfl rfl r
theorem tX2_spendDay_16 {k : Nat} (r : RQ G mX2_spendDay d 17 [x0, some (.ref k), x2, x3, x4] (.ref k :: S) (h) P) : RQ G mX2_spendDay d 16 [x0, some (.ref k), x2, x3, x4] (S) h P := q_aload_n (M := mX2_spendDay) (pc := 16) (r0 := some k) dX2_spendDay_16 rfl rfl r
theorem tX2_spendDay_17 {k : Nat} (r : RQ G mX2_spendDay d 18 [x0, x1, some (.ref k), x3, x4] (.ref k :: S) (h) P) : RQ G mX2_spendDay d 17 [x0, x1, some (.ref k), x3, x4] (S) h P := q_aload_n (M := mX2_spendDay) (pc := 17) (r0 := some k) dX2_spendDay_17 rfl rfl r
theorem tX2_spendDay_18 {v : Int32} (r : RQ G mX2_spendDay d 19 [x0, x1, x2, some (.int v), x4] (.int v :: S) (h) P) : RQ G mX2_spendDay d 18 [x0, x1, x2, some (.int v), x4] (S) h P := q_iload_n (M := mX2_spendDay) (pc := 18) dX2_spendDay_18 rfl rfl r
theorem tX2_spendDay_19 {b d2 : Nat} {vs : List Value} {a0 : Nat} {a1 : Nat} {a2 : Int32} {Q : Int32 → AH → Prop} (hd : d2 + 1 ≤ d) (ha : At h b (.inr (1, vs))) (call : RQ G mX2_ruleFor d2 0 [some (.ref b), some (.ref a0), some (.ref a1), some (.int a2), none] [] h (Ri Q)) (k : ∀ x h1, Q x h1 → RQ G mX2_spendDay d 22 [x0, x1, x2, x3, x4] (.int x :: S) h1 P) (hst : (S.map fun v => v.category).sum ≤ 8 := by exact Nat.le_of_ble_eq_true rfl)  : RQ G mX2_spendDay d 19 [x0, x1, x2, x3, x4] (.int a2 :: .ref a1 :: .ref a0 :: .ref b :: S) h P := q_callV (M := mX2_spendDay) (pc := 19) (M2 := mX2_ruleFor) (As := [.ref a0, .ref a1, .int a2]) (n := 3) dX2_spendDay_19 rfl ⟨by decide, by decide, by decide, rfl⟩ rfl w580 w581 w582 w51 w583 (show CL[1]? = some (RX2, TX2, 3) from rfl) hd (by decide) (Nat.le_of_ble_eq_true rfl) rfl ha hst call (callk_i k)
theorem tX2_spendDay_22 {v : Int32} (ho : ok1 x3 = true := by rfl) (r : RQ G mX2_spendDay d 24 [x0, x1, x2, x3, some (.int v)] (S) (h) P) : RQ G mX2_spendDay d 22 [x0, x1, x2, x3, x4] (.int v :: S) h P := q_istore (M := mX2_spendDay) (pc := 22) dX2_spendDay_22 (Nat.le_of_ble_eq_true rfl) ho r
theorem tX2_spendDay_24 {v : Int32} (r : RQ G mX2_spendDay d 26 [x0, x1, x2, x3, some (.int v)] (.int v :: S) (h) P) : RQ G mX2_spendDay d 24 [x0, x1, x2, x3, some (.int v)] (S) h P := q_iload (M := mX2_spendDay) (pc := 24) dX2_spendDay_24 rfl r
theorem tX2_spendDay_26 (r : RQ G mX2_spendDay d 27 [x0, x1, x2, x3, x4] (.int (-1) :: S) (h) P) : RQ G mX2_spendDay d 26 [x0, x1, x2, x3, x4] (S) h P := q_iconst (M := mX2_spendDay) (pc := 26) dX2_spendDay_26 (by decide) r
theorem tX2_spendDay_27 {x y : Int32} (kt : x = y → RQ G mX2_spendDay d 57 [x0, x1, x2, x3, x4] S h P) (kf : ¬ x = y → RQ G mX2_spendDay d 30 [x0, x1, x2, x3, x4] S h P) : RQ G mX2_spendDay d 27 [x0, x1, x2, x3, x4] (.int y :: .int x :: S) h P := q_icmp_eq (M := mX2_spendDay) (pc := 27) dX2_spendDay_27 (by decide) kt kf
theorem tX2_spendDay_30 {k : Nat} (r : RQ G mX2_spendDay d 31 [some (.ref k), x1, x2, x3, x4] (.ref k :: S) (h) P) : RQ G mX2_spendDay d 30 [some (.ref k), x1, x2, x3, x4] (S) h P := q_aload_n (M := mX2_spendDay) (pc := 30) (r0 := some k) dX2_spendDay_30 rfl rfl r
theorem tX2_spendDay_31 {k : Nat} (r : RQ G mX2_spendDay d 32 [x0, some (.ref k), x2, x3, x4] (.ref k :: S) (h) P) : RQ G mX2_spendDay d 31 [x0, some (.ref k), x2, x3, x4] (S) h P := q_aload_n (M := mX2_spendDay) (pc := 31) (r0 := some k) dX2_spendDay_31 rfl rfl r
theorem tX2_spendDay_32 {k : Nat} (r : RQ G mX2_spendDay d 33 [x0, x1, some (.ref k), x3, x4] (.ref k :: S) (h) P) : RQ G mX2_spendDay d 32 [x0, x1, some (.ref k), x3, x4] (S) h P := q_aload_n (M := mX2_spendDay) (pc := 32) (r0 := some k) dX2_spendDay_32 rfl rfl r
theorem tX2_spendDay_33 {v : Int32} (r : RQ G mX2_spendDay d 34 [x0, x1, x2, some (.int v), x4] (.int v :: S) (h) P) : RQ G mX2_spendDay d 33 [x0, x1, x2, some (.int v), x4] (S) h P := q_iload_n (M := mX2_spendDay) (pc := 33) dX2_spendDay_33 rfl rfl r
theorem tX2_spendDay_34 {k : Nat} (r : RQ G mX2_spendDay d 35 [x0, some (.ref k), x2, x3, x4] (.ref k :: S) (h) P) : RQ G mX2_spendDay d 34 [x0, some (.ref k), x2, x3, x4] (S) h P := q_aload_n (M := mX2_spendDay) (pc := 34) (r0 := some k) dX2_spendDay_34 rfl rfl r
theorem tX2_spendDay_35 {i : Nat} {vs : List Value} {v : Value} (ha : At h i (.inr (0, vs))) (hv : vs[7]? = some v) (r : RQ G mX2_spendDay d 38 [x0, x1, x2, x3, x4] (v :: S) (h) P) : RQ G mX2_spendDay d 35 [x0, x1, x2, x3, x4] (.ref i :: S) h P := q_getN (M := mX2_spendDay) (pc := 35) (kf := 7) dX2_spendDay_35 (show CL[0]? = some (RX1, TX1, 11) from rfl) inA1 (by decide) rfl v280 ha hv r
theorem tX2_spendDay_38 {i : Nat} {vs : List Value} {v : Value} (ha : At h i (.inr (5, vs))) (hv : vs[3]? = some v) (r : RQ G mX2_spendDay d 41 [x0, x1, x2, x3, x4] (v :: S) (h) P) : RQ G mX2_spendDay d 38 [x0, x1, x2, x3, x4] (.ref i :: S) h P := q_getN (M := mX2_spendDay) (pc := 38) (kf := 3) dX2_spendDay_38 (show CL[5]? = some (RX7, TX7, 8) from rfl) inA7 (by decide) rfl v238 ha hv r
theorem tX2_spendDay_41 {v : Int32} (r : RQ G mX2_spendDay d 43 [x0, x1, x2, x3, some (.int v)] (.int v :: S) (h) P) : RQ G mX2_spendDay d 41 [x0, x1, x2, x3, some (.int v)] (S) h P := q_iload (M := mX2_spendDay) (pc := 41) dX2_spendDay_41 rfl r
theorem tX2_spendDay_43 {a n j : Nat} {x : Int32} {f : Nat → Int32} (ha : At h a (.inl (0, n, .inl f))) (hx : x = nI j) (hj : j < n) (hn : n < 2147483648) (r : RQ G mX2_spendDay d 44 [x0, x1, x2, x3, x4] (.int (f j) :: S) (h) P) : RQ G mX2_spendDay d 43 [x0, x1, x2, x3, x4] (.int x :: .ref a :: S) h P := q_iald (M := mX2_spendDay) (pc := 43) dX2_spendDay_43 ha hx hj hn r
theorem tX2_spendDay_44 {k : Nat} (r : RQ G mX2_spendDay d 45 [x0, some (.ref k), x2, x3, x4] (.ref k :: S) (h) P) : RQ G mX2_spendDay d 44 [x0, some (.ref k), x2, x3, x4] (S) h P := q_aload_n (M := mX2_spendDay) (pc := 44) (r0 := some k) dX2_spendDay_44 rfl rfl r
theorem tX2_spendDay_45 {i : Nat} {vs : List Value} {v : Value} (ha : At h i (.inr (0, vs))) (hv : vs[7]? = some v) (r : RQ G mX2_spendDay d 48 [x0, x1, x2, x3, x4] (v :: S) (h) P) : RQ G mX2_spendDay d 45 [x0, x1, x2, x3, x4] (.ref i :: S) h P := q_getN (M := mX2_spendDay) (pc := 45) (kf := 7) dX2_spendDay_45 (show CL[0]? = some (RX1, TX1, 11) from rfl) inA1 (by decide) rfl v280 ha hv r
theorem tX2_spendDay_48 {i : Nat} {vs : List Value} {v : Value} (ha : At h i (.inr (5, vs))) (hv : vs[4]? = some v) (r : RQ G mX2_spendDay d 51 [x0, x1, x2, x3, x4] (v :: S) (h) P) : RQ G mX2_spendDay d 48 [x0, x1, x2, x3, x4] (.ref i :: S) h P := q_getN (M := mX2_spendDay) (pc := 48) (kf := 4) dX2_spendDay_48 (show CL[5]? = some (RX7, TX7, 8) from rfl) inA7 (by decide) rfl v240 ha hv r
theorem tX2_spendDay_51 {v : Int32} (r : RQ G mX2_spendDay d 53 [x0, x1, x2, x3, some (.int v)] (.int v :: S) (h) P) : RQ G mX2_spendDay d 51 [x0, x1, x2, x3, some (.int v)] (S) h P := q_iload (M := mX2_spendDay) (pc := 51) dX2_spendDay_51 rfl r
theorem tX2_spendDay_53 {a n j : Nat} {x : Int32} {f : Nat → Int32} (ha : At h a (.inl (0, n, .inl f))) (hx : x = nI j) (hj : j < n) (hn : n < 2147483648) (r : RQ G mX2_spendDay d 54 [x0, x1, x2, x3, x4] (.int (f j) :: S) (h) P) : RQ G mX2_spendDay d 53 [x0, x1, x2, x3, x4] (.int x :: .ref a :: S) h P := q_iald (M := mX2_spendDay) (pc := 53) dX2_spendDay_53 ha hx hj hn r
theorem tX2_spendDay_54 {b d2 : Nat} {vs : List Value} {a0 : Nat} {a1 : Nat} {a2 : Int32} {a3 : Int32} {a4 : Int32} {Q : AH → Prop} (hd : d2 + 1 ≤ d) (ha : At h b (.inr (1, vs))) (call : RQ G mX2_run d2 0 [some (.ref b), some (.ref a0), some (.ref a1), some (.int a2), some (.int a3), some (.int a4), none, none, none, none] [] h (Rv Q)) (k : ∀ h1, Q h1 → RQ G mX2_spendDay d 57 [x0, x1, x2, x3, x4] S h1 P) (hst : (S.map fun v => v.category).sum ≤ 8 := by exact Nat.le_of_ble_eq_true rfl)  : RQ G mX2_spendDay d 54 [x0, x1, x2, x3, x4] (.int a4 :: .int a3 :: .int a2 :: .ref a1 :: .ref a0 :: .ref b :: S) h P := q_callV (M := mX2_spendDay) (pc := 54) (M2 := mX2_run) (As := [.ref a0, .ref a1, .int a2, .int a3, .int a4]) (n := 5) dX2_spendDay_54 rfl ⟨by decide, by decide, by decide, rfl⟩ rfl w584 w586 w8 w51 w587 (show CL[1]? = some (RX2, TX2, 3) from rfl) hd (by decide) (Nat.le_of_ble_eq_true rfl) rfl ha hst call (callk_v k)
theorem tX2_spendDay_57 {v : Int32} (ho : ok1 x2 = true := by rfl) (r : RQ G mX2_spendDay d 60 [x0, x1, x2, some (.int (v + (nI 1))), x4] (S) (h) P) : RQ G mX2_spendDay d 57 [x0, x1, x2, some (.int v), x4] (S) h P := q_iinc (M := mX2_spendDay) (pc := 57) dX2_spendDay_57 rfl (congrArg (v + ·) (show Int32.ofInt (1) = (nI 1) by decide)) (Nat.le_of_ble_eq_true rfl) ho r
theorem tX2_spendDay_60 (r : RQ G mX2_spendDay d 7 [x0, x1, x2, x3, x4] S h P) : RQ G mX2_spendDay d 60 [x0, x1, x2, x3, x4] (S) h P := q_goto (M := mX2_spendDay) (pc := 60) dX2_spendDay_60 (by decide) r
theorem tX2_spendDay_63 {k : Nat} (r : RQ G mX2_spendDay d 64 [x0, x1, some (.ref k), x3, x4] (.ref k :: S) (h) P) : RQ G mX2_spendDay d 63 [x0, x1, some (.ref k), x3, x4] (S) h P := q_aload_n (M := mX2_spendDay) (pc := 63) (r0 := some k) dX2_spendDay_63 rfl rfl r
theorem tX2_spendDay_64 {v : Value} (hv : ok1 (some v) = true := by rfl) (r : RQ G mX2_spendDay d 65 [x0, x1, x2, x3, x4] (v :: v :: S) (h) P) : RQ G mX2_spendDay d 64 [x0, x1, x2, x3, x4] (v :: S) h P := q_dup (M := mX2_spendDay) (pc := 64) dX2_spendDay_64 hv r
theorem tX2_spendDay_65 {i : Nat} {vs : List Value} {v : Value} (ha : At h i (.inr (2, vs))) (hv : vs[4]? = some v) (r : RQ G mX2_spendDay d 68 [x0, x1, x2, x3, x4] (v :: S) (h) P) : RQ G mX2_spendDay d 65 [x0, x1, x2, x3, x4] (.ref i :: S) h P := q_getN (M := mX2_spendDay) (pc := 65) (kf := 4) dX2_spendDay_65 (show CL[2]? = some (RX3, TX3, 5) from rfl) inA3 (by decide) rfl v212 ha hv r
theorem tX2_spendDay_68 (r : RQ G mX2_spendDay d 69 [x0, x1, x2, x3, x4] (.int (nI 1) :: S) (h) P) : RQ G mX2_spendDay d 68 [x0, x1, x2, x3, x4] (S) h P := q_iconst (M := mX2_spendDay) (pc := 68) dX2_spendDay_68 (by decide) r
theorem tX2_spendDay_69 {x y : Int32} (r : RQ G mX2_spendDay d 70 [x0, x1, x2, x3, x4] (.int (x + y) :: S) (h) P) : RQ G mX2_spendDay d 69 [x0, x1, x2, x3, x4] (.int y :: .int x :: S) h P := q_iadd (M := mX2_spendDay) (pc := 69) dX2_spendDay_69 r
theorem tX2_spendDay_70 {i : Nat} {vs : List Value} {v : Int32} (ha : At h i (.inr (2, vs))) (hlen : vs.length = 5) (r : RQ G mX2_spendDay d 73 [x0, x1, x2, x3, x4] (S) (hset h i (.inr (2, vs.set 4 (.int v)))) P) : RQ G mX2_spendDay d 70 [x0, x1, x2, x3, x4] (.int v :: .ref i :: S) h P := q_putN (M := mX2_spendDay) (pc := 70) (kf := 4) dX2_spendDay_70 (show CL[2]? = some (RX3, TX3, 5) from rfl) inA3 tyX3_ok nmX3 (by decide) rfl v212 rfl (tyX3_ok 4 (by decide)) (nfit_int v) (by rw [hlen]; decide) ha r
theorem tX2_spendDay_73 {k : Nat} (r : RQ G mX2_spendDay d 74 [some (.ref k), x1, x2, x3, x4] (.ref k :: S) (h) P) : RQ G mX2_spendDay d 73 [some (.ref k), x1, x2, x3, x4] (S) h P := q_aload_n (M := mX2_spendDay) (pc := 73) (r0 := some k) dX2_spendDay_73 rfl rfl r
theorem tX2_spendDay_74 {i : Nat} {vs : List Value} {v : Value} (ha : At h i (.inr (1, vs))) (hv : vs[2]? = some v) (r : RQ G mX2_spendDay d 77 [x0, x1, x2, x3, x4] (v :: S) (h) P) : RQ G mX2_spendDay d 74 [x0, x1, x2, x3, x4] (.ref i :: S) h P := q_get (M := mX2_spendDay) (pc := 74) (kf := 2) dX2_spendDay_74 (show CL[1]? = some (RX2, TX2, 3) from rfl) inA2 (by decide) rfl w351 ha hv r
theorem tX2_spendDay_77 {x : Int32} (hP : P (.inl (some (.int x))) h) : RQ G mX2_spendDay d 77 [x0, x1, x2, x3, x4] ([.int x]) h P := q_ireturn (M := mX2_spendDay) (pc := 77) (ty := .int) dX2_spendDay_77 rfl rfl hP
end T
theorem dX2_ruleFor_0 : decode cX2_ruleFor 0 = .ok (.aload_n 1, 1) := by decide +kernel
theorem dX2_ruleFor_1 : decode cX2_ruleFor 1 = .ok (.getfield 49, 3) := by decide +kernel
theorem dX2_ruleFor_4 : decode cX2_ruleFor 4 = .ok (.iload_n 3, 1) := by decide +kernel
theorem dX2_ruleFor_5 : decode cX2_ruleFor 5 = .ok (.iaload, 1) := by decide +kernel
theorem dX2_ruleFor_6 : decode cX2_ruleFor 6 = .ok (.istore 4, 2) := by decide +kernel
theorem dX2_ruleFor_8 : decode cX2_ruleFor 8 = .ok (.iload 4, 2) := by decide +kernel
theorem dX2_ruleFor_10 : decode cX2_ruleFor 10 = .ok (.aload_n 1, 1) := by decide +kernel
theorem dX2_ruleFor_11 : decode cX2_ruleFor 11 = .ok (.getfield 52, 3) := by decide +kernel
theorem dX2_ruleFor_14 : decode cX2_ruleFor 14 = .ok (.iload_n 3, 1) := by decide +kernel
theorem dX2_ruleFor_15 : decode cX2_ruleFor 15 = .ok (.iaload, 1) := by decide +kernel
theorem dX2_ruleFor_16 : decode cX2_ruleFor 16 = .ok (.if_icmp .ge 46, 3) := by decide +kernel
theorem dX2_ruleFor_19 : decode cX2_ruleFor 19 = .ok (.aload_n 0, 1) := by decide +kernel
theorem dX2_ruleFor_20 : decode cX2_ruleFor 20 = .ok (.aload_n 1, 1) := by decide +kernel
theorem dX2_ruleFor_21 : decode cX2_ruleFor 21 = .ok (.aload_n 2, 1) := by decide +kernel
theorem dX2_ruleFor_22 : decode cX2_ruleFor 22 = .ok (.iload_n 3, 1) := by decide +kernel
theorem dX2_ruleFor_23 : decode cX2_ruleFor 23 = .ok (.aload_n 1, 1) := by decide +kernel
theorem dX2_ruleFor_24 : decode cX2_ruleFor 24 = .ok (.getfield 28, 3) := by decide +kernel
theorem dX2_ruleFor_27 : decode cX2_ruleFor 27 = .ok (.getfield 55, 3) := by decide +kernel
theorem dX2_ruleFor_30 : decode cX2_ruleFor 30 = .ok (.iload 4, 2) := by decide +kernel
theorem dX2_ruleFor_32 : decode cX2_ruleFor 32 = .ok (.iaload, 1) := by decide +kernel
theorem dX2_ruleFor_33 : decode cX2_ruleFor 33 = .ok (.aload_n 1, 1) := by decide +kernel
theorem dX2_ruleFor_34 : decode cX2_ruleFor 34 = .ok (.getfield 28, 3) := by decide +kernel
theorem dX2_ruleFor_37 : decode cX2_ruleFor 37 = .ok (.getfield 32, 3) := by decide +kernel
theorem dX2_ruleFor_40 : decode cX2_ruleFor 40 = .ok (.iload 4, 2) := by decide +kernel
theorem dX2_ruleFor_42 : decode cX2_ruleFor 42 = .ok (.iaload, 1) := by decide +kernel
theorem dX2_ruleFor_43 : decode cX2_ruleFor 43 = .ok (.invokevirtual 40, 3) := by decide +kernel
theorem dX2_ruleFor_46 : decode cX2_ruleFor 46 = .ok (.aload_n 0, 1) := by decide +kernel
theorem dX2_ruleFor_47 : decode cX2_ruleFor 47 = .ok (.invokevirtual 58, 3) := by decide +kernel
theorem dX2_ruleFor_50 : decode cX2_ruleFor 50 = .ok (.ifCond .eq 6, 3) := by decide +kernel
theorem dX2_ruleFor_53 : decode cX2_ruleFor 53 = .ok (.iload 4, 2) := by decide +kernel
theorem dX2_ruleFor_55 : decode cX2_ruleFor 55 = .ok (.ireturn, 1) := by decide +kernel
theorem dX2_ruleFor_56 : decode cX2_ruleFor 56 = .ok (.iinc 4 1, 3) := by decide +kernel
theorem dX2_ruleFor_59 : decode cX2_ruleFor 59 = .ok (.goto (-51), 3) := by decide +kernel
theorem dX2_ruleFor_62 : decode cX2_ruleFor 62 = .ok (.iconst (-1), 1) := by decide +kernel
theorem dX2_ruleFor_63 : decode cX2_ruleFor 63 = .ok (.ireturn, 1) := by decide +kernel
section T
variable {G : GT} {d : Nat} {S : List Value} {h : AH} {P : OC → AH → Prop} {x0 x1 x2 x3 x4 x5 x6 x7 x8 x9 x10 x11 x12 x13 x14 x15 : Option Value}
theorem tX2_ruleFor_0 {k : Nat} (r : RQ G mX2_ruleFor d 1 [x0, some (.ref k), x2, x3, x4] (.ref k :: S) (h) P) : RQ G mX2_ruleFor d 0 [x0, some (.ref k), x2, x3, x4] (S) h P := q_aload_n (M := mX2_ruleFor) (pc := 0) (r0 := some k) dX2_ruleFor_0 rfl rfl r
theorem tX2_ruleFor_1 {i : Nat} {vs : List Value} {v : Value} (ha : At h i (.inr (0, vs))) (hv : vs[4]? = some v) (r : RQ G mX2_ruleFor d 4 [x0, x1, x2, x3, x4] (v :: S) (h) P) : RQ G mX2_ruleFor d 1 [x0, x1, x2, x3, x4] (.ref i :: S) h P := q_getN (M := mX2_ruleFor) (pc := 1) (kf := 4) dX2_ruleFor_1 (show CL[0]? = some (RX1, TX1, 11) from rfl) inA1 (by decide) rfl v273 ha hv r
theorem tX2_ruleFor_4 {v : Int32} (r : RQ G mX2_ruleFor d 5 [x0, x1, x2, some (.int v), x4] (.int v :: S) (h) P) : RQ G mX2_ruleFor d 4 [x0, x1, x2, some (.int v), x4] (S) h P := q_iload_n (M := mX2_ruleFor) (pc := 4) dX2_ruleFor_4 rfl rfl r
theorem tX2_ruleFor_5 {a n j : Nat} {x : Int32} {f : Nat → Int32} (ha : At h a (.inl (0, n, .inl f))) (hx : x = nI j) (hj : j < n) (hn : n < 2147483648) (r : RQ G mX2_ruleFor d 6 [x0, x1, x2, x3, x4] (.int (f j) :: S) (h) P) : RQ G mX2_ruleFor d 5 [x0, x1, x2, x3, x4] (.int x :: .ref a :: S) h P := q_iald (M := mX2_ruleFor) (pc := 5) dX2_ruleFor_5 ha hx hj hn r
theorem tX2_ruleFor_6 {v : Int32} (ho : ok1 x3 = true := by rfl) (r : RQ G mX2_ruleFor d 8 [x0, x1, x2, x3, some (.int v)] (S) (h) P) : RQ G mX2_ruleFor d 6 [x0, x1, x2, x3, x4] (.int v :: S) h P := q_istore (M := mX2_ruleFor) (pc := 6) dX2_ruleFor_6 (Nat.le_of_ble_eq_true rfl) ho r
theorem tX2_ruleFor_8 {v : Int32} (r : RQ G mX2_ruleFor d 10 [x0, x1, x2, x3, some (.int v)] (.int v :: S) (h) P) : RQ G mX2_ruleFor d 8 [x0, x1, x2, x3, some (.int v)] (S) h P := q_iload (M := mX2_ruleFor) (pc := 8) dX2_ruleFor_8 rfl r
theorem tX2_ruleFor_10 {k : Nat} (r : RQ G mX2_ruleFor d 11 [x0, some (.ref k), x2, x3, x4] (.ref k :: S) (h) P) : RQ G mX2_ruleFor d 10 [x0, some (.ref k), x2, x3, x4] (S) h P := q_aload_n (M := mX2_ruleFor) (pc := 10) (r0 := some k) dX2_ruleFor_10 rfl rfl r
theorem tX2_ruleFor_11 {i : Nat} {vs : List Value} {v : Value} (ha : At h i (.inr (0, vs))) (hv : vs[5]? = some v) (r : RQ G mX2_ruleFor d 14 [x0, x1, x2, x3, x4] (v :: S) (h) P) : RQ G mX2_ruleFor d 11 [x0, x1, x2, x3, x4] (.ref i :: S) h P := q_getN (M := mX2_ruleFor) (pc := 11) (kf := 5) dX2_ruleFor_11 (show CL[0]? = some (RX1, TX1, 11) from rfl) inA1 (by decide) rfl v276 ha hv r
theorem tX2_ruleFor_14 {v : Int32} (r : RQ G mX2_ruleFor d 15 [x0, x1, x2, some (.int v), x4] (.int v :: S) (h) P) : RQ G mX2_ruleFor d 14 [x0, x1, x2, some (.int v), x4] (S) h P := q_iload_n (M := mX2_ruleFor) (pc := 14) dX2_ruleFor_14 rfl rfl r
theorem tX2_ruleFor_15 {a n j : Nat} {x : Int32} {f : Nat → Int32} (ha : At h a (.inl (0, n, .inl f))) (hx : x = nI j) (hj : j < n) (hn : n < 2147483648) (r : RQ G mX2_ruleFor d 16 [x0, x1, x2, x3, x4] (.int (f j) :: S) (h) P) : RQ G mX2_ruleFor d 15 [x0, x1, x2, x3, x4] (.int x :: .ref a :: S) h P := q_iald (M := mX2_ruleFor) (pc := 15) dX2_ruleFor_15 ha hx hj hn r
theorem tX2_ruleFor_16 {x y : Int32} (kt : y ≤ x → RQ G mX2_ruleFor d 62 [x0, x1, x2, x3, x4] S h P) (kf : ¬ y ≤ x → RQ G mX2_ruleFor d 19 [x0, x1, x2, x3, x4] S h P) : RQ G mX2_ruleFor d 16 [x0, x1, x2, x3, x4] (.int y :: .int x :: S) h P := q_icmp_ge (M := mX2_ruleFor) (pc := 16) dX2_ruleFor_16 (by decide) kt kf
theorem tX2_ruleFor_19 {k : Nat} (r : RQ G mX2_ruleFor d 20 [some (.ref k), x1, x2, x3, x4] (.ref k :: S) (h) P) : RQ G mX2_ruleFor d 19 [some (.ref k), x1, x2, x3, x4] (S) h P := q_aload_n (M := mX2_ruleFor) (pc := 19) (r0 := some k) dX2_ruleFor_19 rfl rfl r
theorem tX2_ruleFor_20 {k : Nat} (r : RQ G mX2_ruleFor d 21 [x0, some (.ref k), x2, x3, x4] (.ref k :: S) (h) P) : RQ G mX2_ruleFor d 20 [x0, some (.ref k), x2, x3, x4] (S) h P := q_aload_n (M := mX2_ruleFor) (pc := 20) (r0 := some k) dX2_ruleFor_20 rfl rfl r
theorem tX2_ruleFor_21 {k : Nat} (r : RQ G mX2_ruleFor d 22 [x0, x1, some (.ref k), x3, x4] (.ref k :: S) (h) P) : RQ G mX2_ruleFor d 21 [x0, x1, some (.ref k), x3, x4] (S) h P := q_aload_n (M := mX2_ruleFor) (pc := 21) (r0 := some k) dX2_ruleFor_21 rfl rfl r
theorem tX2_ruleFor_22 {v : Int32} (r : RQ G mX2_ruleFor d 23 [x0, x1, x2, some (.int v), x4] (.int v :: S) (h) P) : RQ G mX2_ruleFor d 22 [x0, x1, x2, some (.int v), x4] (S) h P := q_iload_n (M := mX2_ruleFor) (pc := 22) dX2_ruleFor_22 rfl rfl r
theorem tX2_ruleFor_23 {k : Nat} (r : RQ G mX2_ruleFor d 24 [x0, some (.ref k), x2, x3, x4] (.ref k :: S) (h) P) : RQ G mX2_ruleFor d 23 [x0, some (.ref k), x2, x3, x4] (S) h P := q_aload_n (M := mX2_ruleFor) (pc := 23) (r0 := some k) dX2_ruleFor_23 rfl rfl r
theorem tX2_ruleFor_24 {i : Nat} {vs : List Value} {v : Value} (ha : At h i (.inr (0, vs))) (hv : vs[7]? = some v) (r : RQ G mX2_ruleFor d 27 [x0, x1, x2, x3, x4] (v :: S) (h) P) : RQ G mX2_ruleFor d 24 [x0, x1, x2, x3, x4] (.ref i :: S) h P := q_getN (M := mX2_ruleFor) (pc := 24) (kf := 7) dX2_ruleFor_24 (show CL[0]? = some (RX1, TX1, 11) from rfl) inA1 (by decide) rfl v280 ha hv r
theorem tX2_ruleFor_27 {i : Nat} {vs : List Value} {v : Value} (ha : At h i (.inr (5, vs))) (hv : vs[2]? = some v) (r : RQ G mX2_ruleFor d 30 [x0, x1, x2, x3, x4] (v :: S) (h) P) : RQ G mX2_ruleFor d 27 [x0, x1, x2, x3, x4] (.ref i :: S) h P := q_getN (M := mX2_ruleFor) (pc := 27) (kf := 2) dX2_ruleFor_27 (show CL[5]? = some (RX7, TX7, 8) from rfl) inA7 (by decide) rfl v236 ha hv r
theorem tX2_ruleFor_30 {v : Int32} (r : RQ G mX2_ruleFor d 32 [x0, x1, x2, x3, some (.int v)] (.int v :: S) (h) P) : RQ G mX2_ruleFor d 30 [x0, x1, x2, x3, some (.int v)] (S) h P := q_iload (M := mX2_ruleFor) (pc := 30) dX2_ruleFor_30 rfl r
theorem tX2_ruleFor_32 {a n j : Nat} {x : Int32} {f : Nat → Int32} (ha : At h a (.inl (0, n, .inl f))) (hx : x = nI j) (hj : j < n) (hn : n < 2147483648) (r : RQ G mX2_ruleFor d 33 [x0, x1, x2, x3, x4] (.int (f j) :: S) (h) P) : RQ G mX2_ruleFor d 32 [x0, x1, x2, x3, x4] (.int x :: .ref a :: S) h P := q_iald (M := mX2_ruleFor) (pc := 32) dX2_ruleFor_32 ha hx hj hn r
theorem tX2_ruleFor_33 {k : Nat} (r : RQ G mX2_ruleFor d 34 [x0, some (.ref k), x2, x3, x4] (.ref k :: S) (h) P) : RQ G mX2_ruleFor d 33 [x0, some (.ref k), x2, x3, x4] (S) h P := q_aload_n (M := mX2_ruleFor) (pc := 33) (r0 := some k) dX2_ruleFor_33 rfl rfl r
theorem tX2_ruleFor_34 {i : Nat} {vs : List Value} {v : Value} (ha : At h i (.inr (0, vs))) (hv : vs[7]? = some v) (r : RQ G mX2_ruleFor d 37 [x0, x1, x2, x3, x4] (v :: S) (h) P) : RQ G mX2_ruleFor d 34 [x0, x1, x2, x3, x4] (.ref i :: S) h P := q_getN (M := mX2_ruleFor) (pc := 34) (kf := 7) dX2_ruleFor_34 (show CL[0]? = some (RX1, TX1, 11) from rfl) inA1 (by decide) rfl v280 ha hv r
theorem tX2_ruleFor_37 {i : Nat} {vs : List Value} {v : Value} (ha : At h i (.inr (5, vs))) (hv : vs[3]? = some v) (r : RQ G mX2_ruleFor d 40 [x0, x1, x2, x3, x4] (v :: S) (h) P) : RQ G mX2_ruleFor d 37 [x0, x1, x2, x3, x4] (.ref i :: S) h P := q_getN (M := mX2_ruleFor) (pc := 37) (kf := 3) dX2_ruleFor_37 (show CL[5]? = some (RX7, TX7, 8) from rfl) inA7 (by decide) rfl v238 ha hv r
theorem tX2_ruleFor_40 {v : Int32} (r : RQ G mX2_ruleFor d 42 [x0, x1, x2, x3, some (.int v)] (.int v :: S) (h) P) : RQ G mX2_ruleFor d 40 [x0, x1, x2, x3, some (.int v)] (S) h P := q_iload (M := mX2_ruleFor) (pc := 40) dX2_ruleFor_40 rfl r
theorem tX2_ruleFor_42 {a n j : Nat} {x : Int32} {f : Nat → Int32} (ha : At h a (.inl (0, n, .inl f))) (hx : x = nI j) (hj : j < n) (hn : n < 2147483648) (r : RQ G mX2_ruleFor d 43 [x0, x1, x2, x3, x4] (.int (f j) :: S) (h) P) : RQ G mX2_ruleFor d 42 [x0, x1, x2, x3, x4] (.int x :: .ref a :: S) h P := q_iald (M := mX2_ruleFor) (pc := 42) dX2_ruleFor_42 ha hx hj hn r
theorem tX2_ruleFor_43 {b d2 : Nat} {vs : List Value} {a0 : Nat} {a1 : Nat} {a2 : Int32} {a3 : Int32} {a4 : Int32} {Q : AH → Prop} (hd : d2 + 1 ≤ d) (ha : At h b (.inr (1, vs))) (call : RQ G mX2_run d2 0 [some (.ref b), some (.ref a0), some (.ref a1), some (.int a2), some (.int a3), some (.int a4), none, none, none, none] [] h (Rv Q)) (k : ∀ h1, Q h1 → RQ G mX2_ruleFor d 46 [x0, x1, x2, x3, x4] S h1 P) (hst : (S.map fun v => v.category).sum ≤ 8 := by exact Nat.le_of_ble_eq_true rfl)  : RQ G mX2_ruleFor d 43 [x0, x1, x2, x3, x4] (.int a4 :: .int a3 :: .int a2 :: .ref a1 :: .ref a0 :: .ref b :: S) h P := q_callV (M := mX2_ruleFor) (pc := 43) (M2 := mX2_run) (As := [.ref a0, .ref a1, .int a2, .int a3, .int a4]) (n := 5) dX2_ruleFor_43 rfl ⟨by decide, by decide, by decide, rfl⟩ rfl w584 w586 w8 w51 w587 (show CL[1]? = some (RX2, TX2, 3) from rfl) hd (by decide) (Nat.le_of_ble_eq_true rfl) rfl ha hst call (callk_v k)
theorem tX2_ruleFor_46 {k : Nat} (r : RQ G mX2_ruleFor d 47 [some (.ref k), x1, x2, x3, x4] (.ref k :: S) (h) P) : RQ G mX2_ruleFor d 46 [some (.ref k), x1, x2, x3, x4] (S) h P := q_aload_n (M := mX2_ruleFor) (pc := 46) (r0 := some k) dX2_ruleFor_46 rfl rfl r
theorem tX2_ruleFor_47 {b d2 : Nat} {vs : List Value}  {Q : Int32 → AH → Prop} (hd : d2 + 1 ≤ d) (ha : At h b (.inr (1, vs))) (call : RQ G mX2_pop d2 0 [some (.ref b)] [] h (Ri Q)) (k : ∀ x h1, Q x h1 → RQ G mX2_ruleFor d 50 [x0, x1, x2, x3, x4] (.int x :: S) h1 P) (hst : (S.map fun v => v.category).sum ≤ 8 := by exact Nat.le_of_ble_eq_true rfl)  : RQ G mX2_ruleFor d 47 [x0, x1, x2, x3, x4] (.ref b :: S) h P := q_callV (M := mX2_ruleFor) (pc := 47) (M2 := mX2_pop) (As := []) (n := 0) dX2_ruleFor_47 rfl ⟨by decide, by decide, by decide, rfl⟩ rfl w610 w612 w10 w51 w613 (show CL[1]? = some (RX2, TX2, 3) from rfl) hd (by decide) (Nat.le_of_ble_eq_true rfl) rfl ha hst call (callk_i k)
theorem tX2_ruleFor_50 {x : Int32} (kt : x = 0 → RQ G mX2_ruleFor d 56 [x0, x1, x2, x3, x4] S h P) (kf : ¬ x = 0 → RQ G mX2_ruleFor d 53 [x0, x1, x2, x3, x4] S h P) : RQ G mX2_ruleFor d 50 [x0, x1, x2, x3, x4] (.int x :: S) h P := q_if_eq (M := mX2_ruleFor) (pc := 50) dX2_ruleFor_50 (by decide) kt kf
theorem tX2_ruleFor_53 {v : Int32} (r : RQ G mX2_ruleFor d 55 [x0, x1, x2, x3, some (.int v)] (.int v :: S) (h) P) : RQ G mX2_ruleFor d 53 [x0, x1, x2, x3, some (.int v)] (S) h P := q_iload (M := mX2_ruleFor) (pc := 53) dX2_ruleFor_53 rfl r
theorem tX2_ruleFor_55 {x : Int32} (hP : P (.inl (some (.int x))) h) : RQ G mX2_ruleFor d 55 [x0, x1, x2, x3, x4] ([.int x]) h P := q_ireturn (M := mX2_ruleFor) (pc := 55) (ty := .int) dX2_ruleFor_55 rfl rfl hP
theorem tX2_ruleFor_56 {v : Int32} (ho : ok1 x3 = true := by rfl) (r : RQ G mX2_ruleFor d 59 [x0, x1, x2, x3, some (.int (v + (nI 1)))] (S) (h) P) : RQ G mX2_ruleFor d 56 [x0, x1, x2, x3, some (.int v)] (S) h P := q_iinc (M := mX2_ruleFor) (pc := 56) dX2_ruleFor_56 rfl (congrArg (v + ·) (show Int32.ofInt (1) = (nI 1) by decide)) (Nat.le_of_ble_eq_true rfl) ho r
theorem tX2_ruleFor_59 (r : RQ G mX2_ruleFor d 8 [x0, x1, x2, x3, x4] S h P) : RQ G mX2_ruleFor d 59 [x0, x1, x2, x3, x4] (S) h P := q_goto (M := mX2_ruleFor) (pc := 59) dX2_ruleFor_59 (by decide) r
theorem tX2_ruleFor_62 (r : RQ G mX2_ruleFor d 63 [x0, x1, x2, x3, x4] (.int (-1) :: S) (h) P) : RQ G mX2_ruleFor d 62 [x0, x1, x2, x3, x4] (S) h P := q_iconst (M := mX2_ruleFor) (pc := 62) dX2_ruleFor_62 (by decide) r
theorem tX2_ruleFor_63 {x : Int32} (hP : P (.inl (some (.int x))) h) : RQ G mX2_ruleFor d 63 [x0, x1, x2, x3, x4] ([.int x]) h P := q_ireturn (M := mX2_ruleFor) (pc := 63) (ty := .int) dX2_ruleFor_63 rfl rfl hP
end T
theorem dX2_run_0 : decode cX2_run 0 = .ok (.aload_n 0, 1) := by decide +kernel
theorem dX2_run_1 : decode cX2_run 1 = .ok (.iconst 0, 1) := by decide +kernel
theorem dX2_run_2 : decode cX2_run 2 = .ok (.putfield 62, 3) := by decide +kernel
theorem dX2_run_5 : decode cX2_run 5 = .ok (.iload 4, 2) := by decide +kernel
theorem dX2_run_7 : decode cX2_run 7 = .ok (.istore 6, 2) := by decide +kernel
theorem dX2_run_9 : decode cX2_run 9 = .ok (.iload 6, 2) := by decide +kernel
theorem dX2_run_11 : decode cX2_run 11 = .ok (.iload 5, 2) := by decide +kernel
theorem dX2_run_13 : decode cX2_run 13 = .ok (.if_icmp .ge 202, 3) := by decide +kernel
theorem dX2_run_16 : decode cX2_run 16 = .ok (.aload_n 1, 1) := by decide +kernel
theorem dX2_run_17 : decode cX2_run 17 = .ok (.getfield 28, 3) := by decide +kernel
theorem dX2_run_20 : decode cX2_run 20 = .ok (.iload 6, 2) := by decide +kernel
theorem dX2_run_22 : decode cX2_run 22 = .ok (.invokevirtual 65, 3) := by decide +kernel
theorem dX2_run_25 : decode cX2_run 25 = .ok (.astore 7, 2) := by decide +kernel
theorem dX2_run_27 : decode cX2_run 27 = .ok (.aload_n 1, 1) := by decide +kernel
theorem dX2_run_28 : decode cX2_run 28 = .ok (.getfield 28, 3) := by decide +kernel
theorem dX2_run_31 : decode cX2_run 31 = .ok (.iload 6, 2) := by decide +kernel
theorem dX2_run_33 : decode cX2_run 33 = .ok (.invokevirtual 69, 3) := by decide +kernel
theorem dX2_run_36 : decode cX2_run 36 = .ok (.istore 8, 2) := by decide +kernel
theorem dX2_run_38 : decode cX2_run 38 = .ok (.getstatic 73, 3) := by decide +kernel
theorem dX2_run_41 : decode cX2_run 41 = .ok (.aload 7, 2) := by decide +kernel
theorem dX2_run_43 : decode cX2_run 43 = .ok (.invokevirtual 78, 3) := by decide +kernel
theorem dX2_run_46 : decode cX2_run 46 = .ok (.iaload, 1) := by decide +kernel
theorem dX2_run_47 : decode cX2_run 47 = .ok (.tableswitch 140 1 14 #[69, 69, 69, 69, 69, 93, 112, 112, 112, 112, 112, 112, 112, 112], 69) := by decide +kernel
theorem dX2_run_116 : decode cX2_run 116 = .ok (.aload_n 0, 1) := by decide +kernel
theorem dX2_run_117 : decode cX2_run 117 = .ok (.aload 7, 2) := by decide +kernel
theorem dX2_run_119 : decode cX2_run 119 = .ok (.iload 8, 2) := by decide +kernel
theorem dX2_run_121 : decode cX2_run 121 = .ok (.aload_n 1, 1) := by decide +kernel
theorem dX2_run_122 : decode cX2_run 122 = .ok (.aload_n 2, 1) := by decide +kernel
theorem dX2_run_123 : decode cX2_run 123 = .ok (.iload_n 3, 1) := by decide +kernel
theorem dX2_run_124 : decode cX2_run 124 = .ok (.invokevirtual 83, 3) := by decide +kernel
theorem dX2_run_127 : decode cX2_run 127 = .ok (.aload_n 0, 1) := by decide +kernel
theorem dX2_run_128 : decode cX2_run 128 = .ok (.dup, 1) := by decide +kernel
theorem dX2_run_129 : decode cX2_run 129 = .ok (.getfield 15, 3) := by decide +kernel
theorem dX2_run_132 : decode cX2_run 132 = .ok (.iconst 1, 1) := by decide +kernel
theorem dX2_run_133 : decode cX2_run 133 = .ok (.iadd, 1) := by decide +kernel
theorem dX2_run_134 : decode cX2_run 134 = .ok (.putfield 15, 3) := by decide +kernel
theorem dX2_run_137 : decode cX2_run 137 = .ok (.goto 72, 3) := by decide +kernel
theorem dX2_run_140 : decode cX2_run 140 = .ok (.aload_n 0, 1) := by decide +kernel
theorem dX2_run_141 : decode cX2_run 141 = .ok (.aload_n 0, 1) := by decide +kernel
theorem dX2_run_142 : decode cX2_run 142 = .ok (.invokevirtual 58, 3) := by decide +kernel
theorem dX2_run_145 : decode cX2_run 145 = .ok (.ifCond .ne 7, 3) := by decide +kernel
theorem dX2_run_148 : decode cX2_run 148 = .ok (.iconst 1, 1) := by decide +kernel
theorem dX2_run_149 : decode cX2_run 149 = .ok (.goto 4, 3) := by decide +kernel
theorem dX2_run_152 : decode cX2_run 152 = .ok (.iconst 0, 1) := by decide +kernel
theorem dX2_run_153 : decode cX2_run 153 = .ok (.invokevirtual 87, 3) := by decide +kernel
theorem dX2_run_156 : decode cX2_run 156 = .ok (.goto 53, 3) := by decide +kernel
theorem dX2_run_159 : decode cX2_run 159 = .ok (.aload_n 0, 1) := by decide +kernel
theorem dX2_run_160 : decode cX2_run 160 = .ok (.aload_n 0, 1) := by decide +kernel
theorem dX2_run_161 : decode cX2_run 161 = .ok (.aload 7, 2) := by decide +kernel
theorem dX2_run_163 : decode cX2_run 163 = .ok (.iload 8, 2) := by decide +kernel
theorem dX2_run_165 : decode cX2_run 165 = .ok (.aload_n 2, 1) := by decide +kernel
theorem dX2_run_166 : decode cX2_run 166 = .ok (.aload_n 2, 1) := by decide +kernel
theorem dX2_run_167 : decode cX2_run 167 = .ok (.getfield 91, 3) := by decide +kernel
theorem dX2_run_170 : decode cX2_run 170 = .ok (.iload_n 3, 1) := by decide +kernel
theorem dX2_run_171 : decode cX2_run 171 = .ok (.iaload, 1) := by decide +kernel
theorem dX2_run_172 : decode cX2_run 172 = .ok (.aload_n 1, 1) := by decide +kernel
theorem dX2_run_173 : decode cX2_run 173 = .ok (.getfield 94, 3) := by decide +kernel
theorem dX2_run_176 : decode cX2_run 176 = .ok (.iload_n 3, 1) := by decide +kernel
theorem dX2_run_177 : decode cX2_run 177 = .ok (.iaload, 1) := by decide +kernel
theorem dX2_run_178 : decode cX2_run 178 = .ok (.invokevirtual 97, 3) := by decide +kernel
theorem dX2_run_181 : decode cX2_run 181 = .ok (.invokevirtual 87, 3) := by decide +kernel
theorem dX2_run_184 : decode cX2_run 184 = .ok (.goto 25, 3) := by decide +kernel
theorem dX2_run_187 : decode cX2_run 187 = .ok (.aload_n 0, 1) := by decide +kernel
theorem dX2_run_188 : decode cX2_run 188 = .ok (.invokevirtual 58, 3) := by decide +kernel
theorem dX2_run_191 : decode cX2_run 191 = .ok (.istore 9, 2) := by decide +kernel
theorem dX2_run_193 : decode cX2_run 193 = .ok (.aload_n 0, 1) := by decide +kernel
theorem dX2_run_194 : decode cX2_run 194 = .ok (.aload_n 0, 1) := by decide +kernel
theorem dX2_run_195 : decode cX2_run 195 = .ok (.aload 7, 2) := by decide +kernel
theorem dX2_run_197 : decode cX2_run 197 = .ok (.aload_n 0, 1) := by decide +kernel
theorem dX2_run_198 : decode cX2_run 198 = .ok (.invokevirtual 58, 3) := by decide +kernel
theorem dX2_run_201 : decode cX2_run 201 = .ok (.iload 9, 2) := by decide +kernel
theorem dX2_run_203 : decode cX2_run 203 = .ok (.invokevirtual 101, 3) := by decide +kernel
theorem dX2_run_206 : decode cX2_run 206 = .ok (.invokevirtual 87, 3) := by decide +kernel
theorem dX2_run_209 : decode cX2_run 209 = .ok (.iinc 6 1, 3) := by decide +kernel
theorem dX2_run_212 : decode cX2_run 212 = .ok (.goto (-203), 3) := by decide +kernel
theorem dX2_run_215 : decode cX2_run 215 = .ok (.return_, 1) := by decide +kernel
section T
variable {G : GT} {d : Nat} {S : List Value} {h : AH} {P : OC → AH → Prop} {x0 x1 x2 x3 x4 x5 x6 x7 x8 x9 x10 x11 x12 x13 x14 x15 : Option Value}
theorem tX2_run_0 {k : Nat} (r : RQ G mX2_run d 1 [some (.ref k), x1, x2, x3, x4, x5, x6, x7, x8, x9] (.ref k :: S) (h) P) : RQ G mX2_run d 0 [some (.ref k), x1, x2, x3, x4, x5, x6, x7, x8, x9] (S) h P := q_aload_n (M := mX2_run) (pc := 0) (r0 := some k) dX2_run_0 rfl rfl r
theorem tX2_run_1 (r : RQ G mX2_run d 2 [x0, x1, x2, x3, x4, x5, x6, x7, x8, x9] (.int (nI 0) :: S) (h) P) : RQ G mX2_run d 1 [x0, x1, x2, x3, x4, x5, x6, x7, x8, x9] (S) h P := q_iconst (M := mX2_run) (pc := 1) dX2_run_1 (by decide) r
theorem tX2_run_2 {i : Nat} {vs : List Value} {v : Int32} (ha : At h i (.inr (1, vs))) (hlen : vs.length = 3) (r : RQ G mX2_run d 5 [x0, x1, x2, x3, x4, x5, x6, x7, x8, x9] (S) (hset h i (.inr (1, vs.set 1 (.int v)))) P) : RQ G mX2_run d 2 [x0, x1, x2, x3, x4, x5, x6, x7, x8, x9] (.int v :: .ref i :: S) h P := q_put (M := mX2_run) (pc := 2) (kf := 1) (host := "") dX2_run_2 (show CL[1]? = some (RX2, TX2, 3) from rfl) inA2 tyX2_ok nmX2 (by decide) rfl w350 rfl (tyX2_ok 1 (by decide)) (nfit_int v) (by rw [hlen]; decide) ha r
theorem tX2_run_5 {v : Int32} (r : RQ G mX2_run d 7 [x0, x1, x2, x3, some (.int v), x5, x6, x7, x8, x9] (.int v :: S) (h) P) : RQ G mX2_run d 5 [x0, x1, x2, x3, some (.int v), x5, x6, x7, x8, x9] (S) h P := q_iload (M := mX2_run) (pc := 5) dX2_run_5 rfl r
theorem tX2_run_7 {v : Int32} (ho : ok1 x5 = true := by rfl) (r : RQ G mX2_run d 9 [x0, x1, x2, x3, x4, x5, some (.int v), x7, x8, x9] (S) (h) P) : RQ G mX2_run d 7 [x0, x1, x2, x3, x4, x5, x6, x7, x8, x9] (.int v :: S) h P := q_istore (M := mX2_run) (pc := 7) dX2_run_7 (Nat.le_of_ble_eq_true rfl) ho r
theorem tX2_run_9 {v : Int32} (r : RQ G mX2_run d 11 [x0, x1, x2, x3, x4, x5, some (.int v), x7, x8, x9] (.int v :: S) (h) P) : RQ G mX2_run d 9 [x0, x1, x2, x3, x4, x5, some (.int v), x7, x8, x9] (S) h P := q_iload (M := mX2_run) (pc := 9) dX2_run_9 rfl r
theorem tX2_run_11 {v : Int32} (r : RQ G mX2_run d 13 [x0, x1, x2, x3, x4, some (.int v), x6, x7, x8, x9] (.int v :: S) (h) P) : RQ G mX2_run d 11 [x0, x1, x2, x3, x4, some (.int v), x6, x7, x8, x9] (S) h P := q_iload (M := mX2_run) (pc := 11) dX2_run_11 rfl r
theorem tX2_run_13 {x y : Int32} (kt : y ≤ x → RQ G mX2_run d 215 [x0, x1, x2, x3, x4, x5, x6, x7, x8, x9] S h P) (kf : ¬ y ≤ x → RQ G mX2_run d 16 [x0, x1, x2, x3, x4, x5, x6, x7, x8, x9] S h P) : RQ G mX2_run d 13 [x0, x1, x2, x3, x4, x5, x6, x7, x8, x9] (.int y :: .int x :: S) h P := q_icmp_ge (M := mX2_run) (pc := 13) dX2_run_13 (by decide) kt kf
theorem tX2_run_16 {k : Nat} (r : RQ G mX2_run d 17 [x0, some (.ref k), x2, x3, x4, x5, x6, x7, x8, x9] (.ref k :: S) (h) P) : RQ G mX2_run d 16 [x0, some (.ref k), x2, x3, x4, x5, x6, x7, x8, x9] (S) h P := q_aload_n (M := mX2_run) (pc := 16) (r0 := some k) dX2_run_16 rfl rfl r
theorem tX2_run_17 {i : Nat} {vs : List Value} {v : Value} (ha : At h i (.inr (0, vs))) (hv : vs[7]? = some v) (r : RQ G mX2_run d 20 [x0, x1, x2, x3, x4, x5, x6, x7, x8, x9] (v :: S) (h) P) : RQ G mX2_run d 17 [x0, x1, x2, x3, x4, x5, x6, x7, x8, x9] (.ref i :: S) h P := q_getN (M := mX2_run) (pc := 17) (kf := 7) dX2_run_17 (show CL[0]? = some (RX1, TX1, 11) from rfl) inA1 (by decide) rfl v280 ha hv r
theorem tX2_run_20 {v : Int32} (r : RQ G mX2_run d 22 [x0, x1, x2, x3, x4, x5, some (.int v), x7, x8, x9] (.int v :: S) (h) P) : RQ G mX2_run d 20 [x0, x1, x2, x3, x4, x5, some (.int v), x7, x8, x9] (S) h P := q_iload (M := mX2_run) (pc := 20) dX2_run_20 rfl r
theorem tX2_run_22 {b d2 : Nat} {vs : List Value} {a0 : Int32} {Q : Nat → AH → Prop} (hd : d2 + 1 ≤ d) (ha : At h b (.inr (5, vs))) (call : RQ G mX7_kindAt d2 0 [some (.ref b), some (.int a0), none] [] h (Rr Q)) (k : ∀ x h1, Q x h1 → RQ G mX2_run d 25 [x0, x1, x2, x3, x4, x5, x6, x7, x8, x9] (.ref x :: S) h1 P) (hst : (S.map fun v => v.category).sum ≤ 8 := by exact Nat.le_of_ble_eq_true rfl)  : RQ G mX2_run d 22 [x0, x1, x2, x3, x4, x5, x6, x7, x8, x9] (.int a0 :: .ref b :: S) h P := q_callV (M := mX2_run) (pc := 22) (M2 := mX7_kindAt) (As := [.int a0]) (n := 1) dX2_run_22 rfl ⟨by decide, by decide, by decide, rfl⟩ rfl w588 w589 w590 w50 w591 (show CL[5]? = some (RX7, TX7, 8) from rfl) hd (by decide) (Nat.le_of_ble_eq_true rfl) rfl ha hst call (callk_r k)
theorem tX2_run_25 {k : Nat} (ho : ok1 x6 = true := by rfl) (r : RQ G mX2_run d 27 [x0, x1, x2, x3, x4, x5, x6, some (.ref k), x8, x9] (S) (h) P) : RQ G mX2_run d 25 [x0, x1, x2, x3, x4, x5, x6, x7, x8, x9] (.ref k :: S) h P := q_astore (M := mX2_run) (pc := 25) (r0 := some k) dX2_run_25 (Nat.le_of_ble_eq_true rfl) ho r
theorem tX2_run_27 {k : Nat} (r : RQ G mX2_run d 28 [x0, some (.ref k), x2, x3, x4, x5, x6, x7, x8, x9] (.ref k :: S) (h) P) : RQ G mX2_run d 27 [x0, some (.ref k), x2, x3, x4, x5, x6, x7, x8, x9] (S) h P := q_aload_n (M := mX2_run) (pc := 27) (r0 := some k) dX2_run_27 rfl rfl r
theorem tX2_run_28 {i : Nat} {vs : List Value} {v : Value} (ha : At h i (.inr (0, vs))) (hv : vs[7]? = some v) (r : RQ G mX2_run d 31 [x0, x1, x2, x3, x4, x5, x6, x7, x8, x9] (v :: S) (h) P) : RQ G mX2_run d 28 [x0, x1, x2, x3, x4, x5, x6, x7, x8, x9] (.ref i :: S) h P := q_getN (M := mX2_run) (pc := 28) (kf := 7) dX2_run_28 (show CL[0]? = some (RX1, TX1, 11) from rfl) inA1 (by decide) rfl v280 ha hv r
theorem tX2_run_31 {v : Int32} (r : RQ G mX2_run d 33 [x0, x1, x2, x3, x4, x5, some (.int v), x7, x8, x9] (.int v :: S) (h) P) : RQ G mX2_run d 31 [x0, x1, x2, x3, x4, x5, some (.int v), x7, x8, x9] (S) h P := q_iload (M := mX2_run) (pc := 31) dX2_run_31 rfl r
theorem tX2_run_33 {b d2 : Nat} {vs : List Value} {a0 : Int32} {Q : Int32 → AH → Prop} (hd : d2 + 1 ≤ d) (ha : At h b (.inr (5, vs))) (call : RQ G mX7_numberAt d2 0 [some (.ref b), some (.int a0)] [] h (Ri Q)) (k : ∀ x h1, Q x h1 → RQ G mX2_run d 36 [x0, x1, x2, x3, x4, x5, x6, x7, x8, x9] (.int x :: S) h1 P) (hst : (S.map fun v => v.category).sum ≤ 8 := by exact Nat.le_of_ble_eq_true rfl)  : RQ G mX2_run d 33 [x0, x1, x2, x3, x4, x5, x6, x7, x8, x9] (.int a0 :: .ref b :: S) h P := q_callV (M := mX2_run) (pc := 33) (M2 := mX7_numberAt) (As := [.int a0]) (n := 1) dX2_run_33 rfl ⟨by decide, by decide, by decide, rfl⟩ rfl w594 w595 w596 w50 w597 (show CL[5]? = some (RX7, TX7, 8) from rfl) hd (by decide) (Nat.le_of_ble_eq_true rfl) rfl ha hst call (callk_i k)
theorem tX2_run_36 {v : Int32} (ho : ok1 x7 = true := by rfl) (r : RQ G mX2_run d 38 [x0, x1, x2, x3, x4, x5, x6, x7, some (.int v), x9] (S) (h) P) : RQ G mX2_run d 36 [x0, x1, x2, x3, x4, x5, x6, x7, x8, x9] (.int v :: S) h P := q_istore (M := mX2_run) (pc := 36) dX2_run_36 (Nat.le_of_ble_eq_true rfl) ho r
theorem tX2_run_41 {k : Nat} (r : RQ G mX2_run d 43 [x0, x1, x2, x3, x4, x5, x6, some (.ref k), x8, x9] (.ref k :: S) (h) P) : RQ G mX2_run d 41 [x0, x1, x2, x3, x4, x5, x6, some (.ref k), x8, x9] (S) h P := q_aload (M := mX2_run) (pc := 41) (r0 := some k) dX2_run_41 rfl r
theorem tX2_run_46 {a n j : Nat} {x : Int32} {f : Nat → Int32} (ha : At h a (.inl (0, n, .inl f))) (hx : x = nI j) (hj : j < n) (hn : n < 2147483648) (r : RQ G mX2_run d 47 [x0, x1, x2, x3, x4, x5, x6, x7, x8, x9] (.int (f j) :: S) (h) P) : RQ G mX2_run d 46 [x0, x1, x2, x3, x4, x5, x6, x7, x8, x9] (.int x :: .ref a :: S) h P := q_iald (M := mX2_run) (pc := 46) dX2_run_46 ha hx hj hn r
theorem tX2_run_116 {k : Nat} (r : RQ G mX2_run d 117 [some (.ref k), x1, x2, x3, x4, x5, x6, x7, x8, x9] (.ref k :: S) (h) P) : RQ G mX2_run d 116 [some (.ref k), x1, x2, x3, x4, x5, x6, x7, x8, x9] (S) h P := q_aload_n (M := mX2_run) (pc := 116) (r0 := some k) dX2_run_116 rfl rfl r
theorem tX2_run_117 {k : Nat} (r : RQ G mX2_run d 119 [x0, x1, x2, x3, x4, x5, x6, some (.ref k), x8, x9] (.ref k :: S) (h) P) : RQ G mX2_run d 117 [x0, x1, x2, x3, x4, x5, x6, some (.ref k), x8, x9] (S) h P := q_aload (M := mX2_run) (pc := 117) (r0 := some k) dX2_run_117 rfl r
theorem tX2_run_119 {v : Int32} (r : RQ G mX2_run d 121 [x0, x1, x2, x3, x4, x5, x6, x7, some (.int v), x9] (.int v :: S) (h) P) : RQ G mX2_run d 119 [x0, x1, x2, x3, x4, x5, x6, x7, some (.int v), x9] (S) h P := q_iload (M := mX2_run) (pc := 119) dX2_run_119 rfl r
theorem tX2_run_121 {k : Nat} (r : RQ G mX2_run d 122 [x0, some (.ref k), x2, x3, x4, x5, x6, x7, x8, x9] (.ref k :: S) (h) P) : RQ G mX2_run d 121 [x0, some (.ref k), x2, x3, x4, x5, x6, x7, x8, x9] (S) h P := q_aload_n (M := mX2_run) (pc := 121) (r0 := some k) dX2_run_121 rfl rfl r
theorem tX2_run_122 {k : Nat} (r : RQ G mX2_run d 123 [x0, x1, some (.ref k), x3, x4, x5, x6, x7, x8, x9] (.ref k :: S) (h) P) : RQ G mX2_run d 122 [x0, x1, some (.ref k), x3, x4, x5, x6, x7, x8, x9] (S) h P := q_aload_n (M := mX2_run) (pc := 122) (r0 := some k) dX2_run_122 rfl rfl r
theorem tX2_run_123 {v : Int32} (r : RQ G mX2_run d 124 [x0, x1, x2, some (.int v), x4, x5, x6, x7, x8, x9] (.int v :: S) (h) P) : RQ G mX2_run d 123 [x0, x1, x2, some (.int v), x4, x5, x6, x7, x8, x9] (S) h P := q_iload_n (M := mX2_run) (pc := 123) dX2_run_123 rfl rfl r
theorem tX2_run_124 {b d2 : Nat} {vs : List Value} {a0 : Nat} {a1 : Int32} {a2 : Nat} {a3 : Nat} {a4 : Int32} {Q : AH → Prop} (hd : d2 + 1 ≤ d) (ha : At h b (.inr (1, vs))) (call : RQ G mX2_act d2 0 [some (.ref b), some (.ref a0), some (.int a1), some (.ref a2), some (.ref a3), some (.int a4), none, none] [] h (Rv Q)) (k : ∀ h1, Q h1 → RQ G mX2_run d 127 [x0, x1, x2, x3, x4, x5, x6, x7, x8, x9] S h1 P) (hst : (S.map fun v => v.category).sum ≤ 8 := by exact Nat.le_of_ble_eq_true rfl)  : RQ G mX2_run d 124 [x0, x1, x2, x3, x4, x5, x6, x7, x8, x9] (.int a4 :: .ref a3 :: .ref a2 :: .int a1 :: .ref a0 :: .ref b :: S) h P := q_callV (M := mX2_run) (pc := 124) (M2 := mX2_act) (As := [.ref a0, .int a1, .ref a2, .ref a3, .int a4]) (n := 5) dX2_run_124 rfl ⟨by decide, by decide, by decide, rfl⟩ rfl w606 w608 w9 w51 w609 (show CL[1]? = some (RX2, TX2, 3) from rfl) hd (by decide) (Nat.le_of_ble_eq_true rfl) rfl ha hst call (callk_v k)
theorem tX2_run_127 {k : Nat} (r : RQ G mX2_run d 128 [some (.ref k), x1, x2, x3, x4, x5, x6, x7, x8, x9] (.ref k :: S) (h) P) : RQ G mX2_run d 127 [some (.ref k), x1, x2, x3, x4, x5, x6, x7, x8, x9] (S) h P := q_aload_n (M := mX2_run) (pc := 127) (r0 := some k) dX2_run_127 rfl rfl r
theorem tX2_run_128 {v : Value} (hv : ok1 (some v) = true := by rfl) (r : RQ G mX2_run d 129 [x0, x1, x2, x3, x4, x5, x6, x7, x8, x9] (v :: v :: S) (h) P) : RQ G mX2_run d 128 [x0, x1, x2, x3, x4, x5, x6, x7, x8, x9] (v :: S) h P := q_dup (M := mX2_run) (pc := 128) dX2_run_128 hv r
theorem tX2_run_129 {i : Nat} {vs : List Value} {v : Value} (ha : At h i (.inr (1, vs))) (hv : vs[2]? = some v) (r : RQ G mX2_run d 132 [x0, x1, x2, x3, x4, x5, x6, x7, x8, x9] (v :: S) (h) P) : RQ G mX2_run d 129 [x0, x1, x2, x3, x4, x5, x6, x7, x8, x9] (.ref i :: S) h P := q_get (M := mX2_run) (pc := 129) (kf := 2) dX2_run_129 (show CL[1]? = some (RX2, TX2, 3) from rfl) inA2 (by decide) rfl w351 ha hv r
theorem tX2_run_132 (r : RQ G mX2_run d 133 [x0, x1, x2, x3, x4, x5, x6, x7, x8, x9] (.int (nI 1) :: S) (h) P) : RQ G mX2_run d 132 [x0, x1, x2, x3, x4, x5, x6, x7, x8, x9] (S) h P := q_iconst (M := mX2_run) (pc := 132) dX2_run_132 (by decide) r
theorem tX2_run_133 {x y : Int32} (r : RQ G mX2_run d 134 [x0, x1, x2, x3, x4, x5, x6, x7, x8, x9] (.int (x + y) :: S) (h) P) : RQ G mX2_run d 133 [x0, x1, x2, x3, x4, x5, x6, x7, x8, x9] (.int y :: .int x :: S) h P := q_iadd (M := mX2_run) (pc := 133) dX2_run_133 r
theorem tX2_run_134 {i : Nat} {vs : List Value} {v : Int32} (ha : At h i (.inr (1, vs))) (hlen : vs.length = 3) (r : RQ G mX2_run d 137 [x0, x1, x2, x3, x4, x5, x6, x7, x8, x9] (S) (hset h i (.inr (1, vs.set 2 (.int v)))) P) : RQ G mX2_run d 134 [x0, x1, x2, x3, x4, x5, x6, x7, x8, x9] (.int v :: .ref i :: S) h P := q_put (M := mX2_run) (pc := 134) (kf := 2) (host := "") dX2_run_134 (show CL[1]? = some (RX2, TX2, 3) from rfl) inA2 tyX2_ok nmX2 (by decide) rfl w351 rfl (tyX2_ok 2 (by decide)) (nfit_int v) (by rw [hlen]; decide) ha r
theorem tX2_run_137 (r : RQ G mX2_run d 209 [x0, x1, x2, x3, x4, x5, x6, x7, x8, x9] S h P) : RQ G mX2_run d 137 [x0, x1, x2, x3, x4, x5, x6, x7, x8, x9] (S) h P := q_goto (M := mX2_run) (pc := 137) dX2_run_137 (by decide) r
theorem tX2_run_140 {k : Nat} (r : RQ G mX2_run d 141 [some (.ref k), x1, x2, x3, x4, x5, x6, x7, x8, x9] (.ref k :: S) (h) P) : RQ G mX2_run d 140 [some (.ref k), x1, x2, x3, x4, x5, x6, x7, x8, x9] (S) h P := q_aload_n (M := mX2_run) (pc := 140) (r0 := some k) dX2_run_140 rfl rfl r
theorem tX2_run_141 {k : Nat} (r : RQ G mX2_run d 142 [some (.ref k), x1, x2, x3, x4, x5, x6, x7, x8, x9] (.ref k :: S) (h) P) : RQ G mX2_run d 141 [some (.ref k), x1, x2, x3, x4, x5, x6, x7, x8, x9] (S) h P := q_aload_n (M := mX2_run) (pc := 141) (r0 := some k) dX2_run_141 rfl rfl r
theorem tX2_run_142 {b d2 : Nat} {vs : List Value}  {Q : Int32 → AH → Prop} (hd : d2 + 1 ≤ d) (ha : At h b (.inr (1, vs))) (call : RQ G mX2_pop d2 0 [some (.ref b)] [] h (Ri Q)) (k : ∀ x h1, Q x h1 → RQ G mX2_run d 145 [x0, x1, x2, x3, x4, x5, x6, x7, x8, x9] (.int x :: S) h1 P) (hst : (S.map fun v => v.category).sum ≤ 8 := by exact Nat.le_of_ble_eq_true rfl)  : RQ G mX2_run d 142 [x0, x1, x2, x3, x4, x5, x6, x7, x8, x9] (.ref b :: S) h P := q_callV (M := mX2_run) (pc := 142) (M2 := mX2_pop) (As := []) (n := 0) dX2_run_142 rfl ⟨by decide, by decide, by decide, rfl⟩ rfl w610 w612 w10 w51 w613 (show CL[1]? = some (RX2, TX2, 3) from rfl) hd (by decide) (Nat.le_of_ble_eq_true rfl) rfl ha hst call (callk_i k)
theorem tX2_run_145 {x : Int32} (kt : ¬ x = 0 → RQ G mX2_run d 152 [x0, x1, x2, x3, x4, x5, x6, x7, x8, x9] S h P) (kf : x = 0 → RQ G mX2_run d 148 [x0, x1, x2, x3, x4, x5, x6, x7, x8, x9] S h P) : RQ G mX2_run d 145 [x0, x1, x2, x3, x4, x5, x6, x7, x8, x9] (.int x :: S) h P := q_if_ne (M := mX2_run) (pc := 145) dX2_run_145 (by decide) kt kf
theorem tX2_run_148 (r : RQ G mX2_run d 149 [x0, x1, x2, x3, x4, x5, x6, x7, x8, x9] (.int (nI 1) :: S) (h) P) : RQ G mX2_run d 148 [x0, x1, x2, x3, x4, x5, x6, x7, x8, x9] (S) h P := q_iconst (M := mX2_run) (pc := 148) dX2_run_148 (by decide) r
theorem tX2_run_149 (r : RQ G mX2_run d 153 [x0, x1, x2, x3, x4, x5, x6, x7, x8, x9] S h P) : RQ G mX2_run d 149 [x0, x1, x2, x3, x4, x5, x6, x7, x8, x9] (S) h P := q_goto (M := mX2_run) (pc := 149) dX2_run_149 (by decide) r
theorem tX2_run_152 (r : RQ G mX2_run d 153 [x0, x1, x2, x3, x4, x5, x6, x7, x8, x9] (.int (nI 0) :: S) (h) P) : RQ G mX2_run d 152 [x0, x1, x2, x3, x4, x5, x6, x7, x8, x9] (S) h P := q_iconst (M := mX2_run) (pc := 152) dX2_run_152 (by decide) r
theorem tX2_run_153 {b d2 : Nat} {vs : List Value} {a0 : Int32} {Q : AH → Prop} (hd : d2 + 1 ≤ d) (ha : At h b (.inr (1, vs))) (call : RQ G mX2_push d2 0 [some (.ref b), some (.int a0)] [] h (Rv Q)) (k : ∀ h1, Q h1 → RQ G mX2_run d 156 [x0, x1, x2, x3, x4, x5, x6, x7, x8, x9] S h1 P) (hst : (S.map fun v => v.category).sum ≤ 8 := by exact Nat.le_of_ble_eq_true rfl)  : RQ G mX2_run d 153 [x0, x1, x2, x3, x4, x5, x6, x7, x8, x9] (.int a0 :: .ref b :: S) h P := q_callV (M := mX2_run) (pc := 153) (M2 := mX2_push) (As := [.int a0]) (n := 1) dX2_run_153 rfl ⟨by decide, by decide, by decide, rfl⟩ rfl w636 w638 w11 w51 w639 (show CL[1]? = some (RX2, TX2, 3) from rfl) hd (by decide) (Nat.le_of_ble_eq_true rfl) rfl ha hst call (callk_v k)
theorem tX2_run_156 (r : RQ G mX2_run d 209 [x0, x1, x2, x3, x4, x5, x6, x7, x8, x9] S h P) : RQ G mX2_run d 156 [x0, x1, x2, x3, x4, x5, x6, x7, x8, x9] (S) h P := q_goto (M := mX2_run) (pc := 156) dX2_run_156 (by decide) r
theorem tX2_run_159 {k : Nat} (r : RQ G mX2_run d 160 [some (.ref k), x1, x2, x3, x4, x5, x6, x7, x8, x9] (.ref k :: S) (h) P) : RQ G mX2_run d 159 [some (.ref k), x1, x2, x3, x4, x5, x6, x7, x8, x9] (S) h P := q_aload_n (M := mX2_run) (pc := 159) (r0 := some k) dX2_run_159 rfl rfl r
theorem tX2_run_160 {k : Nat} (r : RQ G mX2_run d 161 [some (.ref k), x1, x2, x3, x4, x5, x6, x7, x8, x9] (.ref k :: S) (h) P) : RQ G mX2_run d 160 [some (.ref k), x1, x2, x3, x4, x5, x6, x7, x8, x9] (S) h P := q_aload_n (M := mX2_run) (pc := 160) (r0 := some k) dX2_run_160 rfl rfl r
theorem tX2_run_161 {k : Nat} (r : RQ G mX2_run d 163 [x0, x1, x2, x3, x4, x5, x6, some (.ref k), x8, x9] (.ref k :: S) (h) P) : RQ G mX2_run d 161 [x0, x1, x2, x3, x4, x5, x6, some (.ref k), x8, x9] (S) h P := q_aload (M := mX2_run) (pc := 161) (r0 := some k) dX2_run_161 rfl r
theorem tX2_run_163 {v : Int32} (r : RQ G mX2_run d 165 [x0, x1, x2, x3, x4, x5, x6, x7, some (.int v), x9] (.int v :: S) (h) P) : RQ G mX2_run d 163 [x0, x1, x2, x3, x4, x5, x6, x7, some (.int v), x9] (S) h P := q_iload (M := mX2_run) (pc := 163) dX2_run_163 rfl r
theorem tX2_run_165 {k : Nat} (r : RQ G mX2_run d 166 [x0, x1, some (.ref k), x3, x4, x5, x6, x7, x8, x9] (.ref k :: S) (h) P) : RQ G mX2_run d 165 [x0, x1, some (.ref k), x3, x4, x5, x6, x7, x8, x9] (S) h P := q_aload_n (M := mX2_run) (pc := 165) (r0 := some k) dX2_run_165 rfl rfl r
theorem tX2_run_166 {k : Nat} (r : RQ G mX2_run d 167 [x0, x1, some (.ref k), x3, x4, x5, x6, x7, x8, x9] (.ref k :: S) (h) P) : RQ G mX2_run d 166 [x0, x1, some (.ref k), x3, x4, x5, x6, x7, x8, x9] (S) h P := q_aload_n (M := mX2_run) (pc := 166) (r0 := some k) dX2_run_166 rfl rfl r
theorem tX2_run_167 {i : Nat} {vs : List Value} {v : Value} (ha : At h i (.inr (2, vs))) (hv : vs[1]? = some v) (r : RQ G mX2_run d 170 [x0, x1, x2, x3, x4, x5, x6, x7, x8, x9] (v :: S) (h) P) : RQ G mX2_run d 167 [x0, x1, x2, x3, x4, x5, x6, x7, x8, x9] (.ref i :: S) h P := q_getN (M := mX2_run) (pc := 167) (kf := 1) dX2_run_167 (show CL[2]? = some (RX3, TX3, 5) from rfl) inA3 (by decide) rfl v204 ha hv r
theorem tX2_run_170 {v : Int32} (r : RQ G mX2_run d 171 [x0, x1, x2, some (.int v), x4, x5, x6, x7, x8, x9] (.int v :: S) (h) P) : RQ G mX2_run d 170 [x0, x1, x2, some (.int v), x4, x5, x6, x7, x8, x9] (S) h P := q_iload_n (M := mX2_run) (pc := 170) dX2_run_170 rfl rfl r
theorem tX2_run_171 {a n j : Nat} {x : Int32} {f : Nat → Int32} (ha : At h a (.inl (0, n, .inl f))) (hx : x = nI j) (hj : j < n) (hn : n < 2147483648) (r : RQ G mX2_run d 172 [x0, x1, x2, x3, x4, x5, x6, x7, x8, x9] (.int (f j) :: S) (h) P) : RQ G mX2_run d 171 [x0, x1, x2, x3, x4, x5, x6, x7, x8, x9] (.int x :: .ref a :: S) h P := q_iald (M := mX2_run) (pc := 171) dX2_run_171 ha hx hj hn r
theorem tX2_run_172 {k : Nat} (r : RQ G mX2_run d 173 [x0, some (.ref k), x2, x3, x4, x5, x6, x7, x8, x9] (.ref k :: S) (h) P) : RQ G mX2_run d 172 [x0, some (.ref k), x2, x3, x4, x5, x6, x7, x8, x9] (S) h P := q_aload_n (M := mX2_run) (pc := 172) (r0 := some k) dX2_run_172 rfl rfl r
theorem tX2_run_173 {i : Nat} {vs : List Value} {v : Value} (ha : At h i (.inr (0, vs))) (hv : vs[3]? = some v) (r : RQ G mX2_run d 176 [x0, x1, x2, x3, x4, x5, x6, x7, x8, x9] (v :: S) (h) P) : RQ G mX2_run d 173 [x0, x1, x2, x3, x4, x5, x6, x7, x8, x9] (.ref i :: S) h P := q_getN (M := mX2_run) (pc := 173) (kf := 3) dX2_run_173 (show CL[0]? = some (RX1, TX1, 11) from rfl) inA1 (by decide) rfl v270 ha hv r
theorem tX2_run_176 {v : Int32} (r : RQ G mX2_run d 177 [x0, x1, x2, some (.int v), x4, x5, x6, x7, x8, x9] (.int v :: S) (h) P) : RQ G mX2_run d 176 [x0, x1, x2, some (.int v), x4, x5, x6, x7, x8, x9] (S) h P := q_iload_n (M := mX2_run) (pc := 176) dX2_run_176 rfl rfl r
theorem tX2_run_177 {a n j : Nat} {x : Int32} {f : Nat → Int32} (ha : At h a (.inl (0, n, .inl f))) (hx : x = nI j) (hj : j < n) (hn : n < 2147483648) (r : RQ G mX2_run d 178 [x0, x1, x2, x3, x4, x5, x6, x7, x8, x9] (.int (f j) :: S) (h) P) : RQ G mX2_run d 177 [x0, x1, x2, x3, x4, x5, x6, x7, x8, x9] (.int x :: .ref a :: S) h P := q_iald (M := mX2_run) (pc := 177) dX2_run_177 ha hx hj hn r
theorem tX2_run_178 {b d2 : Nat} {vs : List Value} {a0 : Nat} {a1 : Int32} {a2 : Nat} {a3 : Int32} {a4 : Int32} {Q : Int32 → AH → Prop} (hd : d2 + 1 ≤ d) (ha : At h b (.inr (1, vs))) (call : RQ G mX2_look d2 0 [some (.ref b), some (.ref a0), some (.int a1), some (.ref a2), some (.int a3), some (.int a4)] [] h (Ri Q)) (k : ∀ x h1, Q x h1 → RQ G mX2_run d 181 [x0, x1, x2, x3, x4, x5, x6, x7, x8, x9] (.int x :: S) h1 P) (hst : (S.map fun v => v.category).sum ≤ 8 := by exact Nat.le_of_ble_eq_true rfl)  : RQ G mX2_run d 178 [x0, x1, x2, x3, x4, x5, x6, x7, x8, x9] (.int a4 :: .int a3 :: .ref a2 :: .int a1 :: .ref a0 :: .ref b :: S) h P := q_callV (M := mX2_run) (pc := 178) (M2 := mX2_look) (As := [.ref a0, .int a1, .ref a2, .int a3, .int a4]) (n := 5) dX2_run_178 rfl ⟨by decide, by decide, by decide, rfl⟩ rfl w640 w642 w12 w51 w643 (show CL[1]? = some (RX2, TX2, 3) from rfl) hd (by decide) (Nat.le_of_ble_eq_true rfl) rfl ha hst call (callk_i k)
theorem tX2_run_181 {b d2 : Nat} {vs : List Value} {a0 : Int32} {Q : AH → Prop} (hd : d2 + 1 ≤ d) (ha : At h b (.inr (1, vs))) (call : RQ G mX2_push d2 0 [some (.ref b), some (.int a0)] [] h (Rv Q)) (k : ∀ h1, Q h1 → RQ G mX2_run d 184 [x0, x1, x2, x3, x4, x5, x6, x7, x8, x9] S h1 P) (hst : (S.map fun v => v.category).sum ≤ 8 := by exact Nat.le_of_ble_eq_true rfl)  : RQ G mX2_run d 181 [x0, x1, x2, x3, x4, x5, x6, x7, x8, x9] (.int a0 :: .ref b :: S) h P := q_callV (M := mX2_run) (pc := 181) (M2 := mX2_push) (As := [.int a0]) (n := 1) dX2_run_181 rfl ⟨by decide, by decide, by decide, rfl⟩ rfl w636 w638 w11 w51 w639 (show CL[1]? = some (RX2, TX2, 3) from rfl) hd (by decide) (Nat.le_of_ble_eq_true rfl) rfl ha hst call (callk_v k)
theorem tX2_run_184 (r : RQ G mX2_run d 209 [x0, x1, x2, x3, x4, x5, x6, x7, x8, x9] S h P) : RQ G mX2_run d 184 [x0, x1, x2, x3, x4, x5, x6, x7, x8, x9] (S) h P := q_goto (M := mX2_run) (pc := 184) dX2_run_184 (by decide) r
theorem tX2_run_187 {k : Nat} (r : RQ G mX2_run d 188 [some (.ref k), x1, x2, x3, x4, x5, x6, x7, x8, x9] (.ref k :: S) (h) P) : RQ G mX2_run d 187 [some (.ref k), x1, x2, x3, x4, x5, x6, x7, x8, x9] (S) h P := q_aload_n (M := mX2_run) (pc := 187) (r0 := some k) dX2_run_187 rfl rfl r
theorem tX2_run_188 {b d2 : Nat} {vs : List Value}  {Q : Int32 → AH → Prop} (hd : d2 + 1 ≤ d) (ha : At h b (.inr (1, vs))) (call : RQ G mX2_pop d2 0 [some (.ref b)] [] h (Ri Q)) (k : ∀ x h1, Q x h1 → RQ G mX2_run d 191 [x0, x1, x2, x3, x4, x5, x6, x7, x8, x9] (.int x :: S) h1 P) (hst : (S.map fun v => v.category).sum ≤ 8 := by exact Nat.le_of_ble_eq_true rfl)  : RQ G mX2_run d 188 [x0, x1, x2, x3, x4, x5, x6, x7, x8, x9] (.ref b :: S) h P := q_callV (M := mX2_run) (pc := 188) (M2 := mX2_pop) (As := []) (n := 0) dX2_run_188 rfl ⟨by decide, by decide, by decide, rfl⟩ rfl w610 w612 w10 w51 w613 (show CL[1]? = some (RX2, TX2, 3) from rfl) hd (by decide) (Nat.le_of_ble_eq_true rfl) rfl ha hst call (callk_i k)
theorem tX2_run_191 {v : Int32} (ho : ok1 x8 = true := by rfl) (r : RQ G mX2_run d 193 [x0, x1, x2, x3, x4, x5, x6, x7, x8, some (.int v)] (S) (h) P) : RQ G mX2_run d 191 [x0, x1, x2, x3, x4, x5, x6, x7, x8, x9] (.int v :: S) h P := q_istore (M := mX2_run) (pc := 191) dX2_run_191 (Nat.le_of_ble_eq_true rfl) ho r
theorem tX2_run_193 {k : Nat} (r : RQ G mX2_run d 194 [some (.ref k), x1, x2, x3, x4, x5, x6, x7, x8, x9] (.ref k :: S) (h) P) : RQ G mX2_run d 193 [some (.ref k), x1, x2, x3, x4, x5, x6, x7, x8, x9] (S) h P := q_aload_n (M := mX2_run) (pc := 193) (r0 := some k) dX2_run_193 rfl rfl r
theorem tX2_run_194 {k : Nat} (r : RQ G mX2_run d 195 [some (.ref k), x1, x2, x3, x4, x5, x6, x7, x8, x9] (.ref k :: S) (h) P) : RQ G mX2_run d 194 [some (.ref k), x1, x2, x3, x4, x5, x6, x7, x8, x9] (S) h P := q_aload_n (M := mX2_run) (pc := 194) (r0 := some k) dX2_run_194 rfl rfl r
theorem tX2_run_195 {k : Nat} (r : RQ G mX2_run d 197 [x0, x1, x2, x3, x4, x5, x6, some (.ref k), x8, x9] (.ref k :: S) (h) P) : RQ G mX2_run d 195 [x0, x1, x2, x3, x4, x5, x6, some (.ref k), x8, x9] (S) h P := q_aload (M := mX2_run) (pc := 195) (r0 := some k) dX2_run_195 rfl r
theorem tX2_run_197 {k : Nat} (r : RQ G mX2_run d 198 [some (.ref k), x1, x2, x3, x4, x5, x6, x7, x8, x9] (.ref k :: S) (h) P) : RQ G mX2_run d 197 [some (.ref k), x1, x2, x3, x4, x5, x6, x7, x8, x9] (S) h P := q_aload_n (M := mX2_run) (pc := 197) (r0 := some k) dX2_run_197 rfl rfl r
theorem tX2_run_198 {b d2 : Nat} {vs : List Value}  {Q : Int32 → AH → Prop} (hd : d2 + 1 ≤ d) (ha : At h b (.inr (1, vs))) (call : RQ G mX2_pop d2 0 [some (.ref b)] [] h (Ri Q)) (k : ∀ x h1, Q x h1 → RQ G mX2_run d 201 [x0, x1, x2, x3, x4, x5, x6, x7, x8, x9] (.int x :: S) h1 P) (hst : (S.map fun v => v.category).sum ≤ 8 := by exact Nat.le_of_ble_eq_true rfl)  : RQ G mX2_run d 198 [x0, x1, x2, x3, x4, x5, x6, x7, x8, x9] (.ref b :: S) h P := q_callV (M := mX2_run) (pc := 198) (M2 := mX2_pop) (As := []) (n := 0) dX2_run_198 rfl ⟨by decide, by decide, by decide, rfl⟩ rfl w610 w612 w10 w51 w613 (show CL[1]? = some (RX2, TX2, 3) from rfl) hd (by decide) (Nat.le_of_ble_eq_true rfl) rfl ha hst call (callk_i k)
theorem tX2_run_201 {v : Int32} (r : RQ G mX2_run d 203 [x0, x1, x2, x3, x4, x5, x6, x7, x8, some (.int v)] (.int v :: S) (h) P) : RQ G mX2_run d 201 [x0, x1, x2, x3, x4, x5, x6, x7, x8, some (.int v)] (S) h P := q_iload (M := mX2_run) (pc := 201) dX2_run_201 rfl r
theorem tX2_run_203 {b d2 : Nat} {vs : List Value} {a0 : Nat} {a1 : Int32} {a2 : Int32} {Q : Int32 → AH → Prop} (hd : d2 + 1 ≤ d) (ha : At h b (.inr (1, vs))) (call : RQ G mX2_reckon d2 0 [some (.ref b), some (.ref a0), some (.int a1), some (.int a2)] [] h (Ri Q)) (k : ∀ x h1, Q x h1 → RQ G mX2_run d 206 [x0, x1, x2, x3, x4, x5, x6, x7, x8, x9] (.int x :: S) h1 P) (hst : (S.map fun v => v.category).sum ≤ 8 := by exact Nat.le_of_ble_eq_true rfl)  : RQ G mX2_run d 203 [x0, x1, x2, x3, x4, x5, x6, x7, x8, x9] (.int a2 :: .int a1 :: .ref a0 :: .ref b :: S) h P := q_callV (M := mX2_run) (pc := 203) (M2 := mX2_reckon) (As := [.ref a0, .int a1, .int a2]) (n := 3) dX2_run_203 rfl ⟨by decide, by decide, by decide, rfl⟩ rfl w646 w648 w13 w51 w649 (show CL[1]? = some (RX2, TX2, 3) from rfl) hd (by decide) (Nat.le_of_ble_eq_true rfl) rfl ha hst call (callk_i k)
theorem tX2_run_206 {b d2 : Nat} {vs : List Value} {a0 : Int32} {Q : AH → Prop} (hd : d2 + 1 ≤ d) (ha : At h b (.inr (1, vs))) (call : RQ G mX2_push d2 0 [some (.ref b), some (.int a0)] [] h (Rv Q)) (k : ∀ h1, Q h1 → RQ G mX2_run d 209 [x0, x1, x2, x3, x4, x5, x6, x7, x8, x9] S h1 P) (hst : (S.map fun v => v.category).sum ≤ 8 := by exact Nat.le_of_ble_eq_true rfl)  : RQ G mX2_run d 206 [x0, x1, x2, x3, x4, x5, x6, x7, x8, x9] (.int a0 :: .ref b :: S) h P := q_callV (M := mX2_run) (pc := 206) (M2 := mX2_push) (As := [.int a0]) (n := 1) dX2_run_206 rfl ⟨by decide, by decide, by decide, rfl⟩ rfl w636 w638 w11 w51 w639 (show CL[1]? = some (RX2, TX2, 3) from rfl) hd (by decide) (Nat.le_of_ble_eq_true rfl) rfl ha hst call (callk_v k)
theorem tX2_run_209 {v : Int32} (ho : ok1 x5 = true := by rfl) (r : RQ G mX2_run d 212 [x0, x1, x2, x3, x4, x5, some (.int (v + (nI 1))), x7, x8, x9] (S) (h) P) : RQ G mX2_run d 209 [x0, x1, x2, x3, x4, x5, some (.int v), x7, x8, x9] (S) h P := q_iinc (M := mX2_run) (pc := 209) dX2_run_209 rfl (congrArg (v + ·) (show Int32.ofInt (1) = (nI 1) by decide)) (Nat.le_of_ble_eq_true rfl) ho r
theorem tX2_run_212 (r : RQ G mX2_run d 9 [x0, x1, x2, x3, x4, x5, x6, x7, x8, x9] S h P) : RQ G mX2_run d 212 [x0, x1, x2, x3, x4, x5, x6, x7, x8, x9] (S) h P := q_goto (M := mX2_run) (pc := 212) dX2_run_212 (by decide) r
theorem tX2_run_215 (hP : P (.inl none) h) : RQ G mX2_run d 215 [x0, x1, x2, x3, x4, x5, x6, x7, x8, x9] ([]) h P := q_return (M := mX2_run) (pc := 215) dX2_run_215 rfl hP
end T
theorem dX2_act_0 : decode cX2_act 0 = .ok (.aload_n 3, 1) := by decide +kernel
theorem dX2_act_1 : decode cX2_act 1 = .ok (.getfield 94, 3) := by decide +kernel
theorem dX2_act_4 : decode cX2_act 4 = .ok (.iload 5, 2) := by decide +kernel
theorem dX2_act_6 : decode cX2_act 6 = .ok (.iaload, 1) := by decide +kernel
theorem dX2_act_7 : decode cX2_act 7 = .ok (.istore 6, 2) := by decide +kernel
theorem dX2_act_9 : decode cX2_act 9 = .ok (.aload 4, 2) := by decide +kernel
theorem dX2_act_11 : decode cX2_act 11 = .ok (.getfield 105, 3) := by decide +kernel
theorem dX2_act_14 : decode cX2_act 14 = .ok (.aload 4, 2) := by decide +kernel
theorem dX2_act_16 : decode cX2_act 16 = .ok (.getfield 91, 3) := by decide +kernel
theorem dX2_act_19 : decode cX2_act 19 = .ok (.iload 5, 2) := by decide +kernel
theorem dX2_act_21 : decode cX2_act 21 = .ok (.iaload, 1) := by decide +kernel
theorem dX2_act_22 : decode cX2_act 22 = .ok (.aaload, 1) := by decide +kernel
theorem dX2_act_23 : decode cX2_act 23 = .ok (.astore 7, 2) := by decide +kernel
theorem dX2_act_25 : decode cX2_act 25 = .ok (.getstatic 73, 3) := by decide +kernel
theorem dX2_act_28 : decode cX2_act 28 = .ok (.aload_n 1, 1) := by decide +kernel
theorem dX2_act_29 : decode cX2_act 29 = .ok (.invokevirtual 78, 3) := by decide +kernel
theorem dX2_act_32 : decode cX2_act 32 = .ok (.iaload, 1) := by decide +kernel
theorem dX2_act_33 : decode cX2_act 33 = .ok (.tableswitch 93 1 4 #[31, 47, 59, 71], 31) := by decide +kernel
theorem dX2_act_64 : decode cX2_act 64 = .ok (.aload 7, 2) := by decide +kernel
theorem dX2_act_66 : decode cX2_act 66 = .ok (.iload_n 2, 1) := by decide +kernel
theorem dX2_act_67 : decode cX2_act 67 = .ok (.iload 6, 2) := by decide +kernel
theorem dX2_act_69 : decode cX2_act 69 = .ok (.aload_n 0, 1) := by decide +kernel
theorem dX2_act_70 : decode cX2_act 70 = .ok (.invokevirtual 58, 3) := by decide +kernel
theorem dX2_act_73 : decode cX2_act 73 = .ok (.invokevirtual 109, 3) := by decide +kernel
theorem dX2_act_76 : decode cX2_act 76 = .ok (.pop, 1) := by decide +kernel
theorem dX2_act_77 : decode cX2_act 77 = .ok (.goto 57, 3) := by decide +kernel
theorem dX2_act_80 : decode cX2_act 80 = .ok (.aload 4, 2) := by decide +kernel
theorem dX2_act_82 : decode cX2_act 82 = .ok (.getfield 91, 3) := by decide +kernel
theorem dX2_act_85 : decode cX2_act 85 = .ok (.iload 5, 2) := by decide +kernel
theorem dX2_act_87 : decode cX2_act 87 = .ok (.iload_n 2, 1) := by decide +kernel
theorem dX2_act_88 : decode cX2_act 88 = .ok (.iastore, 1) := by decide +kernel
theorem dX2_act_89 : decode cX2_act 89 = .ok (.goto 45, 3) := by decide +kernel
theorem dX2_act_92 : decode cX2_act 92 = .ok (.aload 7, 2) := by decide +kernel
theorem dX2_act_94 : decode cX2_act 94 = .ok (.aload_n 3, 1) := by decide +kernel
theorem dX2_act_95 : decode cX2_act 95 = .ok (.getfield 115, 3) := by decide +kernel
theorem dX2_act_98 : decode cX2_act 98 = .ok (.invokevirtual 118, 3) := by decide +kernel
theorem dX2_act_101 : decode cX2_act 101 = .ok (.goto 33, 3) := by decide +kernel
theorem dX2_act_104 : decode cX2_act 104 = .ok (.aload 4, 2) := by decide +kernel
theorem dX2_act_106 : decode cX2_act 106 = .ok (.iload 6, 2) := by decide +kernel
theorem dX2_act_108 : decode cX2_act 108 = .ok (.iload_n 2, 1) := by decide +kernel
theorem dX2_act_109 : decode cX2_act 109 = .ok (.invokevirtual 121, 3) := by decide +kernel
theorem dX2_act_112 : decode cX2_act 112 = .ok (.ifCond .eq 22, 3) := by decide +kernel
theorem dX2_act_115 : decode cX2_act 115 = .ok (.aload 4, 2) := by decide +kernel
theorem dX2_act_117 : decode cX2_act 117 = .ok (.iload 6, 2) := by decide +kernel
theorem dX2_act_119 : decode cX2_act 119 = .ok (.iload_n 2, 1) := by decide +kernel
theorem dX2_act_120 : decode cX2_act 120 = .ok (.invokevirtual 125, 3) := by decide +kernel
theorem dX2_act_123 : decode cX2_act 123 = .ok (.goto 11, 3) := by decide +kernel
theorem dX2_act_126 : decode cX2_act 126 = .ok (.aload 4, 2) := by decide +kernel
theorem dX2_act_128 : decode cX2_act 128 = .ok (.iload 6, 2) := by decide +kernel
theorem dX2_act_130 : decode cX2_act 130 = .ok (.iconst (-1), 1) := by decide +kernel
theorem dX2_act_131 : decode cX2_act 131 = .ok (.invokevirtual 125, 3) := by decide +kernel
theorem dX2_act_134 : decode cX2_act 134 = .ok (.return_, 1) := by decide +kernel
section T
variable {G : GT} {d : Nat} {S : List Value} {h : AH} {P : OC → AH → Prop} {x0 x1 x2 x3 x4 x5 x6 x7 x8 x9 x10 x11 x12 x13 x14 x15 : Option Value}
theorem tX2_act_0 {k : Nat} (r : RQ G mX2_act d 1 [x0, x1, x2, some (.ref k), x4, x5, x6, x7] (.ref k :: S) (h) P) : RQ G mX2_act d 0 [x0, x1, x2, some (.ref k), x4, x5, x6, x7] (S) h P := q_aload_n (M := mX2_act) (pc := 0) (r0 := some k) dX2_act_0 rfl rfl r
theorem tX2_act_1 {i : Nat} {vs : List Value} {v : Value} (ha : At h i (.inr (0, vs))) (hv : vs[3]? = some v) (r : RQ G mX2_act d 4 [x0, x1, x2, x3, x4, x5, x6, x7] (v :: S) (h) P) : RQ G mX2_act d 1 [x0, x1, x2, x3, x4, x5, x6, x7] (.ref i :: S) h P := q_getN (M := mX2_act) (pc := 1) (kf := 3) dX2_act_1 (show CL[0]? = some (RX1, TX1, 11) from rfl) inA1 (by decide) rfl v270 ha hv r
theorem tX2_act_4 {v : Int32} (r : RQ G mX2_act d 6 [x0, x1, x2, x3, x4, some (.int v), x6, x7] (.int v :: S) (h) P) : RQ G mX2_act d 4 [x0, x1, x2, x3, x4, some (.int v), x6, x7] (S) h P := q_iload (M := mX2_act) (pc := 4) dX2_act_4 rfl r
theorem tX2_act_6 {a n j : Nat} {x : Int32} {f : Nat → Int32} (ha : At h a (.inl (0, n, .inl f))) (hx : x = nI j) (hj : j < n) (hn : n < 2147483648) (r : RQ G mX2_act d 7 [x0, x1, x2, x3, x4, x5, x6, x7] (.int (f j) :: S) (h) P) : RQ G mX2_act d 6 [x0, x1, x2, x3, x4, x5, x6, x7] (.int x :: .ref a :: S) h P := q_iald (M := mX2_act) (pc := 6) dX2_act_6 ha hx hj hn r
theorem tX2_act_7 {v : Int32} (ho : ok1 x5 = true := by rfl) (r : RQ G mX2_act d 9 [x0, x1, x2, x3, x4, x5, some (.int v), x7] (S) (h) P) : RQ G mX2_act d 7 [x0, x1, x2, x3, x4, x5, x6, x7] (.int v :: S) h P := q_istore (M := mX2_act) (pc := 7) dX2_act_7 (Nat.le_of_ble_eq_true rfl) ho r
theorem tX2_act_9 {k : Nat} (r : RQ G mX2_act d 11 [x0, x1, x2, x3, some (.ref k), x5, x6, x7] (.ref k :: S) (h) P) : RQ G mX2_act d 9 [x0, x1, x2, x3, some (.ref k), x5, x6, x7] (S) h P := q_aload (M := mX2_act) (pc := 9) (r0 := some k) dX2_act_9 rfl r
theorem tX2_act_11 {i : Nat} {vs : List Value} {v : Value} (ha : At h i (.inr (2, vs))) (hv : vs[0]? = some v) (r : RQ G mX2_act d 14 [x0, x1, x2, x3, x4, x5, x6, x7] (v :: S) (h) P) : RQ G mX2_act d 11 [x0, x1, x2, x3, x4, x5, x6, x7] (.ref i :: S) h P := q_getN (M := mX2_act) (pc := 11) (kf := 0) dX2_act_11 (show CL[2]? = some (RX3, TX3, 5) from rfl) inA3 (by decide) rfl v200 ha hv r
theorem tX2_act_14 {k : Nat} (r : RQ G mX2_act d 16 [x0, x1, x2, x3, some (.ref k), x5, x6, x7] (.ref k :: S) (h) P) : RQ G mX2_act d 14 [x0, x1, x2, x3, some (.ref k), x5, x6, x7] (S) h P := q_aload (M := mX2_act) (pc := 14) (r0 := some k) dX2_act_14 rfl r
theorem tX2_act_16 {i : Nat} {vs : List Value} {v : Value} (ha : At h i (.inr (2, vs))) (hv : vs[1]? = some v) (r : RQ G mX2_act d 19 [x0, x1, x2, x3, x4, x5, x6, x7] (v :: S) (h) P) : RQ G mX2_act d 16 [x0, x1, x2, x3, x4, x5, x6, x7] (.ref i :: S) h P := q_getN (M := mX2_act) (pc := 16) (kf := 1) dX2_act_16 (show CL[2]? = some (RX3, TX3, 5) from rfl) inA3 (by decide) rfl v204 ha hv r
theorem tX2_act_19 {v : Int32} (r : RQ G mX2_act d 21 [x0, x1, x2, x3, x4, some (.int v), x6, x7] (.int v :: S) (h) P) : RQ G mX2_act d 19 [x0, x1, x2, x3, x4, some (.int v), x6, x7] (S) h P := q_iload (M := mX2_act) (pc := 19) dX2_act_19 rfl r
theorem tX2_act_21 {a n j : Nat} {x : Int32} {f : Nat → Int32} (ha : At h a (.inl (0, n, .inl f))) (hx : x = nI j) (hj : j < n) (hn : n < 2147483648) (r : RQ G mX2_act d 22 [x0, x1, x2, x3, x4, x5, x6, x7] (.int (f j) :: S) (h) P) : RQ G mX2_act d 21 [x0, x1, x2, x3, x4, x5, x6, x7] (.int x :: .ref a :: S) h P := q_iald (M := mX2_act) (pc := 21) dX2_act_21 ha hx hj hn r
theorem tX2_act_22 {a n j b : Nat} {x : Int32} {f : Nat → Option Nat} (ha : At h a (.inl (3, n, .inr (.inr (.inr (.inr f)))))) (hx : x = nI j) (hj : j < n) (hn : n < 2147483648) (hf : f j = some b) (r : RQ G mX2_act d 23 [x0, x1, x2, x3, x4, x5, x6, x7] (.ref b :: S) (h) P) : RQ G mX2_act d 22 [x0, x1, x2, x3, x4, x5, x6, x7] (.int x :: .ref a :: S) h P := q_aald3 (M := mX2_act) (pc := 22) dX2_act_22 ha hx hj hn (by rw [hf]; exact r)
theorem tX2_act_23 {k : Nat} (ho : ok1 x6 = true := by rfl) (r : RQ G mX2_act d 25 [x0, x1, x2, x3, x4, x5, x6, some (.ref k)] (S) (h) P) : RQ G mX2_act d 23 [x0, x1, x2, x3, x4, x5, x6, x7] (.ref k :: S) h P := q_astore (M := mX2_act) (pc := 23) (r0 := some k) dX2_act_23 (Nat.le_of_ble_eq_true rfl) ho r
theorem tX2_act_28 {k : Nat} (r : RQ G mX2_act d 29 [x0, some (.ref k), x2, x3, x4, x5, x6, x7] (.ref k :: S) (h) P) : RQ G mX2_act d 28 [x0, some (.ref k), x2, x3, x4, x5, x6, x7] (S) h P := q_aload_n (M := mX2_act) (pc := 28) (r0 := some k) dX2_act_28 rfl rfl r
theorem tX2_act_32 {a n j : Nat} {x : Int32} {f : Nat → Int32} (ha : At h a (.inl (0, n, .inl f))) (hx : x = nI j) (hj : j < n) (hn : n < 2147483648) (r : RQ G mX2_act d 33 [x0, x1, x2, x3, x4, x5, x6, x7] (.int (f j) :: S) (h) P) : RQ G mX2_act d 32 [x0, x1, x2, x3, x4, x5, x6, x7] (.int x :: .ref a :: S) h P := q_iald (M := mX2_act) (pc := 32) dX2_act_32 ha hx hj hn r
theorem tX2_act_64 {k : Nat} (r : RQ G mX2_act d 66 [x0, x1, x2, x3, x4, x5, x6, some (.ref k)] (.ref k :: S) (h) P) : RQ G mX2_act d 64 [x0, x1, x2, x3, x4, x5, x6, some (.ref k)] (S) h P := q_aload (M := mX2_act) (pc := 64) (r0 := some k) dX2_act_64 rfl r
theorem tX2_act_66 {v : Int32} (r : RQ G mX2_act d 67 [x0, x1, some (.int v), x3, x4, x5, x6, x7] (.int v :: S) (h) P) : RQ G mX2_act d 66 [x0, x1, some (.int v), x3, x4, x5, x6, x7] (S) h P := q_iload_n (M := mX2_act) (pc := 66) dX2_act_66 rfl rfl r
theorem tX2_act_67 {v : Int32} (r : RQ G mX2_act d 69 [x0, x1, x2, x3, x4, x5, some (.int v), x7] (.int v :: S) (h) P) : RQ G mX2_act d 67 [x0, x1, x2, x3, x4, x5, some (.int v), x7] (S) h P := q_iload (M := mX2_act) (pc := 67) dX2_act_67 rfl r
theorem tX2_act_69 {k : Nat} (r : RQ G mX2_act d 70 [some (.ref k), x1, x2, x3, x4, x5, x6, x7] (.ref k :: S) (h) P) : RQ G mX2_act d 69 [some (.ref k), x1, x2, x3, x4, x5, x6, x7] (S) h P := q_aload_n (M := mX2_act) (pc := 69) (r0 := some k) dX2_act_69 rfl rfl r
theorem tX2_act_70 {b d2 : Nat} {vs : List Value}  {Q : Int32 → AH → Prop} (hd : d2 + 1 ≤ d) (ha : At h b (.inr (1, vs))) (call : RQ G mX2_pop d2 0 [some (.ref b)] [] h (Ri Q)) (k : ∀ x h1, Q x h1 → RQ G mX2_act d 73 [x0, x1, x2, x3, x4, x5, x6, x7] (.int x :: S) h1 P) (hst : (S.map fun v => v.category).sum ≤ 8 := by exact Nat.le_of_ble_eq_true rfl)  : RQ G mX2_act d 70 [x0, x1, x2, x3, x4, x5, x6, x7] (.ref b :: S) h P := q_callV (M := mX2_act) (pc := 70) (M2 := mX2_pop) (As := []) (n := 0) dX2_act_70 rfl ⟨by decide, by decide, by decide, rfl⟩ rfl w610 w612 w10 w51 w613 (show CL[1]? = some (RX2, TX2, 3) from rfl) hd (by decide) (Nat.le_of_ble_eq_true rfl) rfl ha hst call (callk_i k)
theorem tX2_act_73 {b d2 : Nat} {vs : List Value} {a0 : Int32} {a1 : Int32} {a2 : Int32} {Q : Int32 → AH → Prop} (hd : d2 + 1 ≤ d) (ha : At h b (.inr (3, vs))) (call : RQ G mX4_move d2 0 [some (.ref b), some (.int a0), some (.int a1), some (.int a2), none] [] h (Ri Q)) (k : ∀ x h1, Q x h1 → RQ G mX2_act d 76 [x0, x1, x2, x3, x4, x5, x6, x7] (.int x :: S) h1 P) (hst : (S.map fun v => v.category).sum ≤ 8 := by exact Nat.le_of_ble_eq_true rfl)  : RQ G mX2_act d 73 [x0, x1, x2, x3, x4, x5, x6, x7] (.int a2 :: .int a1 :: .int a0 :: .ref b :: S) h P := q_callV (M := mX2_act) (pc := 73) (M2 := mX4_move) (As := [.int a0, .int a1, .int a2]) (n := 3) dX2_act_73 rfl ⟨by decide, by decide, by decide, rfl⟩ rfl w614 w615 w616 w47 w617 (show CL[3]? = some (RX4, TX4, 10) from rfl) hd (by decide) (Nat.le_of_ble_eq_true rfl) rfl ha hst call (callk_i k)
theorem tX2_act_76 {v : Value} (hv : ok1 (some v) = true := by rfl) (r : RQ G mX2_act d 77 [x0, x1, x2, x3, x4, x5, x6, x7] (S) (h) P) : RQ G mX2_act d 76 [x0, x1, x2, x3, x4, x5, x6, x7] (v :: S) h P := q_pop (M := mX2_act) (pc := 76) dX2_act_76 hv r
theorem tX2_act_77 (r : RQ G mX2_act d 134 [x0, x1, x2, x3, x4, x5, x6, x7] S h P) : RQ G mX2_act d 77 [x0, x1, x2, x3, x4, x5, x6, x7] (S) h P := q_goto (M := mX2_act) (pc := 77) dX2_act_77 (by decide) r
theorem tX2_act_80 {k : Nat} (r : RQ G mX2_act d 82 [x0, x1, x2, x3, some (.ref k), x5, x6, x7] (.ref k :: S) (h) P) : RQ G mX2_act d 80 [x0, x1, x2, x3, some (.ref k), x5, x6, x7] (S) h P := q_aload (M := mX2_act) (pc := 80) (r0 := some k) dX2_act_80 rfl r
theorem tX2_act_82 {i : Nat} {vs : List Value} {v : Value} (ha : At h i (.inr (2, vs))) (hv : vs[1]? = some v) (r : RQ G mX2_act d 85 [x0, x1, x2, x3, x4, x5, x6, x7] (v :: S) (h) P) : RQ G mX2_act d 82 [x0, x1, x2, x3, x4, x5, x6, x7] (.ref i :: S) h P := q_getN (M := mX2_act) (pc := 82) (kf := 1) dX2_act_82 (show CL[2]? = some (RX3, TX3, 5) from rfl) inA3 (by decide) rfl v204 ha hv r
theorem tX2_act_85 {v : Int32} (r : RQ G mX2_act d 87 [x0, x1, x2, x3, x4, some (.int v), x6, x7] (.int v :: S) (h) P) : RQ G mX2_act d 85 [x0, x1, x2, x3, x4, some (.int v), x6, x7] (S) h P := q_iload (M := mX2_act) (pc := 85) dX2_act_85 rfl r
theorem tX2_act_87 {v : Int32} (r : RQ G mX2_act d 88 [x0, x1, some (.int v), x3, x4, x5, x6, x7] (.int v :: S) (h) P) : RQ G mX2_act d 87 [x0, x1, some (.int v), x3, x4, x5, x6, x7] (S) h P := q_iload_n (M := mX2_act) (pc := 87) dX2_act_87 rfl rfl r
theorem tX2_act_88 {a n j : Nat} {x : Int32} {v : Int32} {f : Nat → Int32} (ha : At h a (.inl (0, n, .inl f))) (hx : x = nI j) (hj : j < n) (hn : n < 2147483648) (r : RQ G mX2_act d 89 [x0, x1, x2, x3, x4, x5, x6, x7] (S) (hset h a (.inl (0, n, .inl (upd f j v)))) P) : RQ G mX2_act d 88 [x0, x1, x2, x3, x4, x5, x6, x7] (.int v :: .int x :: .ref a :: S) h P := q_iast (M := mX2_act) (pc := 88) dX2_act_88 ha hx hj hn r
theorem tX2_act_89 (r : RQ G mX2_act d 134 [x0, x1, x2, x3, x4, x5, x6, x7] S h P) : RQ G mX2_act d 89 [x0, x1, x2, x3, x4, x5, x6, x7] (S) h P := q_goto (M := mX2_act) (pc := 89) dX2_act_89 (by decide) r
theorem tX2_act_92 {k : Nat} (r : RQ G mX2_act d 94 [x0, x1, x2, x3, x4, x5, x6, some (.ref k)] (.ref k :: S) (h) P) : RQ G mX2_act d 92 [x0, x1, x2, x3, x4, x5, x6, some (.ref k)] (S) h P := q_aload (M := mX2_act) (pc := 92) (r0 := some k) dX2_act_92 rfl r
theorem tX2_act_94 {k : Nat} (r : RQ G mX2_act d 95 [x0, x1, x2, some (.ref k), x4, x5, x6, x7] (.ref k :: S) (h) P) : RQ G mX2_act d 94 [x0, x1, x2, some (.ref k), x4, x5, x6, x7] (S) h P := q_aload_n (M := mX2_act) (pc := 94) (r0 := some k) dX2_act_94 rfl rfl r
theorem tX2_act_95 {i : Nat} {vs : List Value} {v : Value} (ha : At h i (.inr (0, vs))) (hv : vs[8]? = some v) (r : RQ G mX2_act d 98 [x0, x1, x2, x3, x4, x5, x6, x7] (v :: S) (h) P) : RQ G mX2_act d 95 [x0, x1, x2, x3, x4, x5, x6, x7] (.ref i :: S) h P := q_getN (M := mX2_act) (pc := 95) (kf := 8) dX2_act_95 (show CL[0]? = some (RX1, TX1, 11) from rfl) inA1 (by decide) rfl v284 ha hv r
theorem tX2_act_98 {b d2 : Nat} {vs : List Value} {a0 : Int32} {Q : AH → Prop} (hd : d2 + 1 ≤ d) (ha : At h b (.inr (3, vs))) (call : RQ G mX4_stir d2 0 [some (.ref b), some (.int a0), none, none, none] [] h (Rv Q)) (k : ∀ h1, Q h1 → RQ G mX2_act d 101 [x0, x1, x2, x3, x4, x5, x6, x7] S h1 P) (hst : (S.map fun v => v.category).sum ≤ 8 := by exact Nat.le_of_ble_eq_true rfl)  : RQ G mX2_act d 98 [x0, x1, x2, x3, x4, x5, x6, x7] (.int a0 :: .ref b :: S) h P := q_callV (M := mX2_act) (pc := 98) (M2 := mX4_stir) (As := [.int a0]) (n := 1) dX2_act_98 rfl ⟨by decide, by decide, by decide, rfl⟩ rfl w624 w625 w626 w47 w627 (show CL[3]? = some (RX4, TX4, 10) from rfl) hd (by decide) (Nat.le_of_ble_eq_true rfl) rfl ha hst call (callk_v k)
theorem tX2_act_101 (r : RQ G mX2_act d 134 [x0, x1, x2, x3, x4, x5, x6, x7] S h P) : RQ G mX2_act d 101 [x0, x1, x2, x3, x4, x5, x6, x7] (S) h P := q_goto (M := mX2_act) (pc := 101) dX2_act_101 (by decide) r
theorem tX2_act_104 {k : Nat} (r : RQ G mX2_act d 106 [x0, x1, x2, x3, some (.ref k), x5, x6, x7] (.ref k :: S) (h) P) : RQ G mX2_act d 104 [x0, x1, x2, x3, some (.ref k), x5, x6, x7] (S) h P := q_aload (M := mX2_act) (pc := 104) (r0 := some k) dX2_act_104 rfl r
theorem tX2_act_106 {v : Int32} (r : RQ G mX2_act d 108 [x0, x1, x2, x3, x4, x5, some (.int v), x7] (.int v :: S) (h) P) : RQ G mX2_act d 106 [x0, x1, x2, x3, x4, x5, some (.int v), x7] (S) h P := q_iload (M := mX2_act) (pc := 106) dX2_act_106 rfl r
theorem tX2_act_108 {v : Int32} (r : RQ G mX2_act d 109 [x0, x1, some (.int v), x3, x4, x5, x6, x7] (.int v :: S) (h) P) : RQ G mX2_act d 108 [x0, x1, some (.int v), x3, x4, x5, x6, x7] (S) h P := q_iload_n (M := mX2_act) (pc := 108) dX2_act_108 rfl rfl r
theorem tX2_act_109 {b d2 : Nat} {vs : List Value} {a0 : Int32} {a1 : Int32} {Q : Int32 → AH → Prop} (hd : d2 + 1 ≤ d) (ha : At h b (.inr (2, vs))) (call : RQ G mX3_mayFollow d2 0 [some (.ref b), some (.int a0), some (.int a1), none, none] [] h (Ri Q)) (k : ∀ x h1, Q x h1 → RQ G mX2_act d 112 [x0, x1, x2, x3, x4, x5, x6, x7] (.int x :: S) h1 P) (hst : (S.map fun v => v.category).sum ≤ 8 := by exact Nat.le_of_ble_eq_true rfl)  : RQ G mX2_act d 109 [x0, x1, x2, x3, x4, x5, x6, x7] (.int a1 :: .int a0 :: .ref b :: S) h P := q_callV (M := mX2_act) (pc := 109) (M2 := mX3_mayFollow) (As := [.int a0, .int a1]) (n := 2) dX2_act_109 rfl ⟨by decide, by decide, by decide, rfl⟩ rfl w628 w629 w630 w46 w631 (show CL[2]? = some (RX3, TX3, 5) from rfl) hd (by decide) (Nat.le_of_ble_eq_true rfl) rfl ha hst call (callk_i k)
theorem tX2_act_112 {x : Int32} (kt : x = 0 → RQ G mX2_act d 134 [x0, x1, x2, x3, x4, x5, x6, x7] S h P) (kf : ¬ x = 0 → RQ G mX2_act d 115 [x0, x1, x2, x3, x4, x5, x6, x7] S h P) : RQ G mX2_act d 112 [x0, x1, x2, x3, x4, x5, x6, x7] (.int x :: S) h P := q_if_eq (M := mX2_act) (pc := 112) dX2_act_112 (by decide) kt kf
theorem tX2_act_115 {k : Nat} (r : RQ G mX2_act d 117 [x0, x1, x2, x3, some (.ref k), x5, x6, x7] (.ref k :: S) (h) P) : RQ G mX2_act d 115 [x0, x1, x2, x3, some (.ref k), x5, x6, x7] (S) h P := q_aload (M := mX2_act) (pc := 115) (r0 := some k) dX2_act_115 rfl r
theorem tX2_act_117 {v : Int32} (r : RQ G mX2_act d 119 [x0, x1, x2, x3, x4, x5, some (.int v), x7] (.int v :: S) (h) P) : RQ G mX2_act d 117 [x0, x1, x2, x3, x4, x5, some (.int v), x7] (S) h P := q_iload (M := mX2_act) (pc := 117) dX2_act_117 rfl r
theorem tX2_act_119 {v : Int32} (r : RQ G mX2_act d 120 [x0, x1, some (.int v), x3, x4, x5, x6, x7] (.int v :: S) (h) P) : RQ G mX2_act d 119 [x0, x1, some (.int v), x3, x4, x5, x6, x7] (S) h P := q_iload_n (M := mX2_act) (pc := 119) dX2_act_119 rfl rfl r
theorem tX2_act_120 {b d2 : Nat} {vs : List Value} {a0 : Int32} {a1 : Int32} {Q : AH → Prop} (hd : d2 + 1 ≤ d) (ha : At h b (.inr (2, vs))) (call : RQ G mX3_follow d2 0 [some (.ref b), some (.int a0), some (.int a1), none, none, none] [] h (Rv Q)) (k : ∀ h1, Q h1 → RQ G mX2_act d 123 [x0, x1, x2, x3, x4, x5, x6, x7] S h1 P) (hst : (S.map fun v => v.category).sum ≤ 8 := by exact Nat.le_of_ble_eq_true rfl)  : RQ G mX2_act d 120 [x0, x1, x2, x3, x4, x5, x6, x7] (.int a1 :: .int a0 :: .ref b :: S) h P := q_callV (M := mX2_act) (pc := 120) (M2 := mX3_follow) (As := [.int a0, .int a1]) (n := 2) dX2_act_120 rfl ⟨by decide, by decide, by decide, rfl⟩ rfl w632 w633 w634 w46 w635 (show CL[2]? = some (RX3, TX3, 5) from rfl) hd (by decide) (Nat.le_of_ble_eq_true rfl) rfl ha hst call (callk_v k)
theorem tX2_act_123 (r : RQ G mX2_act d 134 [x0, x1, x2, x3, x4, x5, x6, x7] S h P) : RQ G mX2_act d 123 [x0, x1, x2, x3, x4, x5, x6, x7] (S) h P := q_goto (M := mX2_act) (pc := 123) dX2_act_123 (by decide) r
theorem tX2_act_126 {k : Nat} (r : RQ G mX2_act d 128 [x0, x1, x2, x3, some (.ref k), x5, x6, x7] (.ref k :: S) (h) P) : RQ G mX2_act d 126 [x0, x1, x2, x3, some (.ref k), x5, x6, x7] (S) h P := q_aload (M := mX2_act) (pc := 126) (r0 := some k) dX2_act_126 rfl r
theorem tX2_act_128 {v : Int32} (r : RQ G mX2_act d 130 [x0, x1, x2, x3, x4, x5, some (.int v), x7] (.int v :: S) (h) P) : RQ G mX2_act d 128 [x0, x1, x2, x3, x4, x5, some (.int v), x7] (S) h P := q_iload (M := mX2_act) (pc := 128) dX2_act_128 rfl r
theorem tX2_act_130 (r : RQ G mX2_act d 131 [x0, x1, x2, x3, x4, x5, x6, x7] (.int (-1) :: S) (h) P) : RQ G mX2_act d 130 [x0, x1, x2, x3, x4, x5, x6, x7] (S) h P := q_iconst (M := mX2_act) (pc := 130) dX2_act_130 (by decide) r
theorem tX2_act_131 {b d2 : Nat} {vs : List Value} {a0 : Int32} {a1 : Int32} {Q : AH → Prop} (hd : d2 + 1 ≤ d) (ha : At h b (.inr (2, vs))) (call : RQ G mX3_follow d2 0 [some (.ref b), some (.int a0), some (.int a1), none, none, none] [] h (Rv Q)) (k : ∀ h1, Q h1 → RQ G mX2_act d 134 [x0, x1, x2, x3, x4, x5, x6, x7] S h1 P) (hst : (S.map fun v => v.category).sum ≤ 8 := by exact Nat.le_of_ble_eq_true rfl)  : RQ G mX2_act d 131 [x0, x1, x2, x3, x4, x5, x6, x7] (.int a1 :: .int a0 :: .ref b :: S) h P := q_callV (M := mX2_act) (pc := 131) (M2 := mX3_follow) (As := [.int a0, .int a1]) (n := 2) dX2_act_131 rfl ⟨by decide, by decide, by decide, rfl⟩ rfl w632 w633 w634 w46 w635 (show CL[2]? = some (RX3, TX3, 5) from rfl) hd (by decide) (Nat.le_of_ble_eq_true rfl) rfl ha hst call (callk_v k)
theorem tX2_act_134 (hP : P (.inl none) h) : RQ G mX2_act d 134 [x0, x1, x2, x3, x4, x5, x6, x7] ([]) h P := q_return (M := mX2_act) (pc := 134) dX2_act_134 rfl hP
end T
theorem dX2_look_0 : decode cX2_look 0 = .ok (.getstatic 73, 3) := by decide +kernel
theorem dX2_look_3 : decode cX2_look 3 = .ok (.aload_n 1, 1) := by decide +kernel
theorem dX2_look_4 : decode cX2_look 4 = .ok (.invokevirtual 78, 3) := by decide +kernel
theorem dX2_look_7 : decode cX2_look 7 = .ok (.iaload, 1) := by decide +kernel
theorem dX2_look_8 : decode cX2_look 8 = .ok (.tableswitch 134 8 14 #[44, 49, 62, 68, 78, 88, 112], 44) := by decide +kernel
theorem dX2_look_52 : decode cX2_look 52 = .ok (.aload_n 3, 1) := by decide +kernel
theorem dX2_look_53 : decode cX2_look 53 = .ok (.getfield 44, 3) := by decide +kernel
theorem dX2_look_56 : decode cX2_look 56 = .ok (.ireturn, 1) := by decide +kernel
theorem dX2_look_57 : decode cX2_look 57 = .ok (.aload_n 3, 1) := by decide +kernel
theorem dX2_look_58 : decode cX2_look 58 = .ok (.getfield 105, 3) := by decide +kernel
theorem dX2_look_61 : decode cX2_look 61 = .ok (.iload 4, 2) := by decide +kernel
theorem dX2_look_63 : decode cX2_look 63 = .ok (.aaload, 1) := by decide +kernel
theorem dX2_look_64 : decode cX2_look 64 = .ok (.getfield 129, 3) := by decide +kernel
theorem dX2_look_67 : decode cX2_look 67 = .ok (.iload_n 2, 1) := by decide +kernel
theorem dX2_look_68 : decode cX2_look 68 = .ok (.iaload, 1) := by decide +kernel
theorem dX2_look_69 : decode cX2_look 69 = .ok (.ireturn, 1) := by decide +kernel
theorem dX2_look_70 : decode cX2_look 70 = .ok (.aload_n 3, 1) := by decide +kernel
theorem dX2_look_71 : decode cX2_look 71 = .ok (.iload_n 2, 1) := by decide +kernel
theorem dX2_look_72 : decode cX2_look 72 = .ok (.invokevirtual 132, 3) := by decide +kernel
theorem dX2_look_75 : decode cX2_look 75 = .ok (.ireturn, 1) := by decide +kernel
theorem dX2_look_76 : decode cX2_look 76 = .ok (.aload_n 3, 1) := by decide +kernel
theorem dX2_look_77 : decode cX2_look 77 = .ok (.iload 4, 2) := by decide +kernel
theorem dX2_look_79 : decode cX2_look 79 = .ok (.invokevirtual 135, 3) := by decide +kernel
theorem dX2_look_82 : decode cX2_look 82 = .ok (.getfield 139, 3) := by decide +kernel
theorem dX2_look_85 : decode cX2_look 85 = .ok (.ireturn, 1) := by decide +kernel
theorem dX2_look_86 : decode cX2_look 86 = .ok (.aload_n 3, 1) := by decide +kernel
theorem dX2_look_87 : decode cX2_look 87 = .ok (.iload 4, 2) := by decide +kernel
theorem dX2_look_89 : decode cX2_look 89 = .ok (.invokevirtual 135, 3) := by decide +kernel
theorem dX2_look_92 : decode cX2_look 92 = .ok (.getfield 142, 3) := by decide +kernel
theorem dX2_look_95 : decode cX2_look 95 = .ok (.ireturn, 1) := by decide +kernel
theorem dX2_look_96 : decode cX2_look 96 = .ok (.aload_n 3, 1) := by decide +kernel
theorem dX2_look_97 : decode cX2_look 97 = .ok (.iload 4, 2) := by decide +kernel
theorem dX2_look_99 : decode cX2_look 99 = .ok (.invokevirtual 135, 3) := by decide +kernel
theorem dX2_look_102 : decode cX2_look 102 = .ok (.getfield 145, 3) := by decide +kernel
theorem dX2_look_105 : decode cX2_look 105 = .ok (.aload_n 3, 1) := by decide +kernel
theorem dX2_look_106 : decode cX2_look 106 = .ok (.getfield 148, 3) := by decide +kernel
theorem dX2_look_109 : decode cX2_look 109 = .ok (.iload_n 2, 1) := by decide +kernel
theorem dX2_look_110 : decode cX2_look 110 = .ok (.iaload, 1) := by decide +kernel
theorem dX2_look_111 : decode cX2_look 111 = .ok (.if_icmp .ne 7, 3) := by decide +kernel
theorem dX2_look_114 : decode cX2_look 114 = .ok (.iconst 1, 1) := by decide +kernel
theorem dX2_look_115 : decode cX2_look 115 = .ok (.goto 4, 3) := by decide +kernel
theorem dX2_look_118 : decode cX2_look 118 = .ok (.iconst 0, 1) := by decide +kernel
theorem dX2_look_119 : decode cX2_look 119 = .ok (.ireturn, 1) := by decide +kernel
theorem dX2_look_120 : decode cX2_look 120 = .ok (.aload_n 3, 1) := by decide +kernel
theorem dX2_look_121 : decode cX2_look 121 = .ok (.getfield 148, 3) := by decide +kernel
theorem dX2_look_124 : decode cX2_look 124 = .ok (.iload 5, 2) := by decide +kernel
theorem dX2_look_126 : decode cX2_look 126 = .ok (.iaload, 1) := by decide +kernel
theorem dX2_look_127 : decode cX2_look 127 = .ok (.aload_n 3, 1) := by decide +kernel
theorem dX2_look_128 : decode cX2_look 128 = .ok (.getfield 148, 3) := by decide +kernel
theorem dX2_look_131 : decode cX2_look 131 = .ok (.iload_n 2, 1) := by decide +kernel
theorem dX2_look_132 : decode cX2_look 132 = .ok (.iaload, 1) := by decide +kernel
theorem dX2_look_133 : decode cX2_look 133 = .ok (.if_icmp .ne 7, 3) := by decide +kernel
theorem dX2_look_136 : decode cX2_look 136 = .ok (.iconst 1, 1) := by decide +kernel
theorem dX2_look_137 : decode cX2_look 137 = .ok (.goto 4, 3) := by decide +kernel
theorem dX2_look_140 : decode cX2_look 140 = .ok (.iconst 0, 1) := by decide +kernel
theorem dX2_look_141 : decode cX2_look 141 = .ok (.ireturn, 1) := by decide +kernel
theorem dX2_look_142 : decode cX2_look 142 = .ok (.iload_n 2, 1) := by decide +kernel
theorem dX2_look_143 : decode cX2_look 143 = .ok (.ireturn, 1) := by decide +kernel
section T
variable {G : GT} {d : Nat} {S : List Value} {h : AH} {P : OC → AH → Prop} {x0 x1 x2 x3 x4 x5 x6 x7 x8 x9 x10 x11 x12 x13 x14 x15 : Option Value}
theorem tX2_look_3 {k : Nat} (r : RQ G mX2_look d 4 [x0, some (.ref k), x2, x3, x4, x5] (.ref k :: S) (h) P) : RQ G mX2_look d 3 [x0, some (.ref k), x2, x3, x4, x5] (S) h P := q_aload_n (M := mX2_look) (pc := 3) (r0 := some k) dX2_look_3 rfl rfl r
theorem tX2_look_7 {a n j : Nat} {x : Int32} {f : Nat → Int32} (ha : At h a (.inl (0, n, .inl f))) (hx : x = nI j) (hj : j < n) (hn : n < 2147483648) (r : RQ G mX2_look d 8 [x0, x1, x2, x3, x4, x5] (.int (f j) :: S) (h) P) : RQ G mX2_look d 7 [x0, x1, x2, x3, x4, x5] (.int x :: .ref a :: S) h P := q_iald (M := mX2_look) (pc := 7) dX2_look_7 ha hx hj hn r
theorem tX2_look_52 {k : Nat} (r : RQ G mX2_look d 53 [x0, x1, x2, some (.ref k), x4, x5] (.ref k :: S) (h) P) : RQ G mX2_look d 52 [x0, x1, x2, some (.ref k), x4, x5] (S) h P := q_aload_n (M := mX2_look) (pc := 52) (r0 := some k) dX2_look_52 rfl rfl r
theorem tX2_look_53 {i : Nat} {vs : List Value} {v : Value} (ha : At h i (.inr (2, vs))) (hv : vs[4]? = some v) (r : RQ G mX2_look d 56 [x0, x1, x2, x3, x4, x5] (v :: S) (h) P) : RQ G mX2_look d 53 [x0, x1, x2, x3, x4, x5] (.ref i :: S) h P := q_getN (M := mX2_look) (pc := 53) (kf := 4) dX2_look_53 (show CL[2]? = some (RX3, TX3, 5) from rfl) inA3 (by decide) rfl v212 ha hv r
theorem tX2_look_56 {x : Int32} (hP : P (.inl (some (.int x))) h) : RQ G mX2_look d 56 [x0, x1, x2, x3, x4, x5] ([.int x]) h P := q_ireturn (M := mX2_look) (pc := 56) (ty := .int) dX2_look_56 rfl rfl hP
theorem tX2_look_57 {k : Nat} (r : RQ G mX2_look d 58 [x0, x1, x2, some (.ref k), x4, x5] (.ref k :: S) (h) P) : RQ G mX2_look d 57 [x0, x1, x2, some (.ref k), x4, x5] (S) h P := q_aload_n (M := mX2_look) (pc := 57) (r0 := some k) dX2_look_57 rfl rfl r
theorem tX2_look_58 {i : Nat} {vs : List Value} {v : Value} (ha : At h i (.inr (2, vs))) (hv : vs[0]? = some v) (r : RQ G mX2_look d 61 [x0, x1, x2, x3, x4, x5] (v :: S) (h) P) : RQ G mX2_look d 58 [x0, x1, x2, x3, x4, x5] (.ref i :: S) h P := q_getN (M := mX2_look) (pc := 58) (kf := 0) dX2_look_58 (show CL[2]? = some (RX3, TX3, 5) from rfl) inA3 (by decide) rfl v200 ha hv r
theorem tX2_look_61 {v : Int32} (r : RQ G mX2_look d 63 [x0, x1, x2, x3, some (.int v), x5] (.int v :: S) (h) P) : RQ G mX2_look d 61 [x0, x1, x2, x3, some (.int v), x5] (S) h P := q_iload (M := mX2_look) (pc := 61) dX2_look_61 rfl r
theorem tX2_look_63 {a n j b : Nat} {x : Int32} {f : Nat → Option Nat} (ha : At h a (.inl (3, n, .inr (.inr (.inr (.inr f)))))) (hx : x = nI j) (hj : j < n) (hn : n < 2147483648) (hf : f j = some b) (r : RQ G mX2_look d 64 [x0, x1, x2, x3, x4, x5] (.ref b :: S) (h) P) : RQ G mX2_look d 63 [x0, x1, x2, x3, x4, x5] (.int x :: .ref a :: S) h P := q_aald3 (M := mX2_look) (pc := 63) dX2_look_63 ha hx hj hn (by rw [hf]; exact r)
theorem tX2_look_64 {i : Nat} {vs : List Value} {v : Value} (ha : At h i (.inr (3, vs))) (hv : vs[0]? = some v) (r : RQ G mX2_look d 67 [x0, x1, x2, x3, x4, x5] (v :: S) (h) P) : RQ G mX2_look d 64 [x0, x1, x2, x3, x4, x5] (.ref i :: S) h P := q_getN (M := mX2_look) (pc := 64) (kf := 0) dX2_look_64 (show CL[3]? = some (RX4, TX4, 10) from rfl) inA4 (by decide) rfl v152 ha hv r
theorem tX2_look_67 {v : Int32} (r : RQ G mX2_look d 68 [x0, x1, some (.int v), x3, x4, x5] (.int v :: S) (h) P) : RQ G mX2_look d 67 [x0, x1, some (.int v), x3, x4, x5] (S) h P := q_iload_n (M := mX2_look) (pc := 67) dX2_look_67 rfl rfl r
theorem tX2_look_68 {a n j : Nat} {x : Int32} {f : Nat → Int32} (ha : At h a (.inl (0, n, .inl f))) (hx : x = nI j) (hj : j < n) (hn : n < 2147483648) (r : RQ G mX2_look d 69 [x0, x1, x2, x3, x4, x5] (.int (f j) :: S) (h) P) : RQ G mX2_look d 68 [x0, x1, x2, x3, x4, x5] (.int x :: .ref a :: S) h P := q_iald (M := mX2_look) (pc := 68) dX2_look_68 ha hx hj hn r
theorem tX2_look_69 {x : Int32} (hP : P (.inl (some (.int x))) h) : RQ G mX2_look d 69 [x0, x1, x2, x3, x4, x5] ([.int x]) h P := q_ireturn (M := mX2_look) (pc := 69) (ty := .int) dX2_look_69 rfl rfl hP
theorem tX2_look_70 {k : Nat} (r : RQ G mX2_look d 71 [x0, x1, x2, some (.ref k), x4, x5] (.ref k :: S) (h) P) : RQ G mX2_look d 70 [x0, x1, x2, some (.ref k), x4, x5] (S) h P := q_aload_n (M := mX2_look) (pc := 70) (r0 := some k) dX2_look_70 rfl rfl r
theorem tX2_look_71 {v : Int32} (r : RQ G mX2_look d 72 [x0, x1, some (.int v), x3, x4, x5] (.int v :: S) (h) P) : RQ G mX2_look d 71 [x0, x1, some (.int v), x3, x4, x5] (S) h P := q_iload_n (M := mX2_look) (pc := 71) dX2_look_71 rfl rfl r
theorem tX2_look_72 {b d2 : Nat} {vs : List Value} {a0 : Int32} {Q : Int32 → AH → Prop} (hd : d2 + 1 ≤ d) (ha : At h b (.inr (2, vs))) (call : RQ G mX3_allSeats d2 0 [some (.ref b), some (.int a0), none, none] [] h (Ri Q)) (k : ∀ x h1, Q x h1 → RQ G mX2_look d 75 [x0, x1, x2, x3, x4, x5] (.int x :: S) h1 P) (hst : (S.map fun v => v.category).sum ≤ 8 := by exact Nat.le_of_ble_eq_true rfl)  : RQ G mX2_look d 72 [x0, x1, x2, x3, x4, x5] (.int a0 :: .ref b :: S) h P := q_callV (M := mX2_look) (pc := 72) (M2 := mX3_allSeats) (As := [.int a0]) (n := 1) dX2_look_72 rfl ⟨by decide, by decide, by decide, rfl⟩ rfl w644 w537 w538 w46 w539 (show CL[2]? = some (RX3, TX3, 5) from rfl) hd (by decide) (Nat.le_of_ble_eq_true rfl) rfl ha hst call (callk_i k)
theorem tX2_look_75 {x : Int32} (hP : P (.inl (some (.int x))) h) : RQ G mX2_look d 75 [x0, x1, x2, x3, x4, x5] ([.int x]) h P := q_ireturn (M := mX2_look) (pc := 75) (ty := .int) dX2_look_75 rfl rfl hP
theorem tX2_look_76 {k : Nat} (r : RQ G mX2_look d 77 [x0, x1, x2, some (.ref k), x4, x5] (.ref k :: S) (h) P) : RQ G mX2_look d 76 [x0, x1, x2, some (.ref k), x4, x5] (S) h P := q_aload_n (M := mX2_look) (pc := 76) (r0 := some k) dX2_look_76 rfl rfl r
theorem tX2_look_77 {v : Int32} (r : RQ G mX2_look d 79 [x0, x1, x2, x3, some (.int v), x5] (.int v :: S) (h) P) : RQ G mX2_look d 77 [x0, x1, x2, x3, some (.int v), x5] (S) h P := q_iload (M := mX2_look) (pc := 77) dX2_look_77 rfl r
theorem tX2_look_79 {b d2 : Nat} {vs : List Value} {a0 : Int32} {Q : Nat → AH → Prop} (hd : d2 + 1 ≤ d) (ha : At h b (.inr (2, vs))) (call : RQ G mX3_counted d2 0 [some (.ref b), some (.int a0)] [] h (Rr Q)) (k : ∀ x h1, Q x h1 → RQ G mX2_look d 82 [x0, x1, x2, x3, x4, x5] (.ref x :: S) h1 P) (hst : (S.map fun v => v.category).sum ≤ 8 := by exact Nat.le_of_ble_eq_true rfl)  : RQ G mX2_look d 79 [x0, x1, x2, x3, x4, x5] (.int a0 :: .ref b :: S) h P := q_callV (M := mX2_look) (pc := 79) (M2 := mX3_counted) (As := [.int a0]) (n := 1) dX2_look_79 rfl ⟨by decide, by decide, by decide, rfl⟩ rfl w645 w471 w472 w46 w473 (show CL[2]? = some (RX3, TX3, 5) from rfl) hd (by decide) (Nat.le_of_ble_eq_true rfl) rfl ha hst call (callk_r k)
theorem tX2_look_82 {i : Nat} {vs : List Value} {v : Value} (ha : At h i (.inr (3, vs))) (hv : vs[8]? = some v) (r : RQ G mX2_look d 85 [x0, x1, x2, x3, x4, x5] (v :: S) (h) P) : RQ G mX2_look d 82 [x0, x1, x2, x3, x4, x5] (.ref i :: S) h P := q_getN (M := mX2_look) (pc := 82) (kf := 8) dX2_look_82 (show CL[3]? = some (RX4, TX4, 10) from rfl) inA4 (by decide) rfl v173 ha hv r
theorem tX2_look_85 {x : Int32} (hP : P (.inl (some (.int x))) h) : RQ G mX2_look d 85 [x0, x1, x2, x3, x4, x5] ([.int x]) h P := q_ireturn (M := mX2_look) (pc := 85) (ty := .int) dX2_look_85 rfl rfl hP
theorem tX2_look_86 {k : Nat} (r : RQ G mX2_look d 87 [x0, x1, x2, some (.ref k), x4, x5] (.ref k :: S) (h) P) : RQ G mX2_look d 86 [x0, x1, x2, some (.ref k), x4, x5] (S) h P := q_aload_n (M := mX2_look) (pc := 86) (r0 := some k) dX2_look_86 rfl rfl r
theorem tX2_look_87 {v : Int32} (r : RQ G mX2_look d 89 [x0, x1, x2, x3, some (.int v), x5] (.int v :: S) (h) P) : RQ G mX2_look d 87 [x0, x1, x2, x3, some (.int v), x5] (S) h P := q_iload (M := mX2_look) (pc := 87) dX2_look_87 rfl r
theorem tX2_look_89 {b d2 : Nat} {vs : List Value} {a0 : Int32} {Q : Nat → AH → Prop} (hd : d2 + 1 ≤ d) (ha : At h b (.inr (2, vs))) (call : RQ G mX3_counted d2 0 [some (.ref b), some (.int a0)] [] h (Rr Q)) (k : ∀ x h1, Q x h1 → RQ G mX2_look d 92 [x0, x1, x2, x3, x4, x5] (.ref x :: S) h1 P) (hst : (S.map fun v => v.category).sum ≤ 8 := by exact Nat.le_of_ble_eq_true rfl)  : RQ G mX2_look d 89 [x0, x1, x2, x3, x4, x5] (.int a0 :: .ref b :: S) h P := q_callV (M := mX2_look) (pc := 89) (M2 := mX3_counted) (As := [.int a0]) (n := 1) dX2_look_89 rfl ⟨by decide, by decide, by decide, rfl⟩ rfl w645 w471 w472 w46 w473 (show CL[2]? = some (RX3, TX3, 5) from rfl) hd (by decide) (Nat.le_of_ble_eq_true rfl) rfl ha hst call (callk_r k)
theorem tX2_look_92 {i : Nat} {vs : List Value} {v : Value} (ha : At h i (.inr (3, vs))) (hv : vs[6]? = some v) (r : RQ G mX2_look d 95 [x0, x1, x2, x3, x4, x5] (v :: S) (h) P) : RQ G mX2_look d 92 [x0, x1, x2, x3, x4, x5] (.ref i :: S) h P := q_getN (M := mX2_look) (pc := 92) (kf := 6) dX2_look_92 (show CL[3]? = some (RX4, TX4, 10) from rfl) inA4 (by decide) rfl v167 ha hv r
theorem tX2_look_95 {x : Int32} (hP : P (.inl (some (.int x))) h) : RQ G mX2_look d 95 [x0, x1, x2, x3, x4, x5] ([.int x]) h P := q_ireturn (M := mX2_look) (pc := 95) (ty := .int) dX2_look_95 rfl rfl hP
theorem tX2_look_96 {k : Nat} (r : RQ G mX2_look d 97 [x0, x1, x2, some (.ref k), x4, x5] (.ref k :: S) (h) P) : RQ G mX2_look d 96 [x0, x1, x2, some (.ref k), x4, x5] (S) h P := q_aload_n (M := mX2_look) (pc := 96) (r0 := some k) dX2_look_96 rfl rfl r
theorem tX2_look_97 {v : Int32} (r : RQ G mX2_look d 99 [x0, x1, x2, x3, some (.int v), x5] (.int v :: S) (h) P) : RQ G mX2_look d 97 [x0, x1, x2, x3, some (.int v), x5] (S) h P := q_iload (M := mX2_look) (pc := 97) dX2_look_97 rfl r
theorem tX2_look_99 {b d2 : Nat} {vs : List Value} {a0 : Int32} {Q : Nat → AH → Prop} (hd : d2 + 1 ≤ d) (ha : At h b (.inr (2, vs))) (call : RQ G mX3_counted d2 0 [some (.ref b), some (.int a0)] [] h (Rr Q)) (k : ∀ x h1, Q x h1 → RQ G mX2_look d 102 [x0, x1, x2, x3, x4, x5] (.ref x :: S) h1 P) (hst : (S.map fun v => v.category).sum ≤ 8 := by exact Nat.le_of_ble_eq_true rfl)  : RQ G mX2_look d 99 [x0, x1, x2, x3, x4, x5] (.int a0 :: .ref b :: S) h P := q_callV (M := mX2_look) (pc := 99) (M2 := mX3_counted) (As := [.int a0]) (n := 1) dX2_look_99 rfl ⟨by decide, by decide, by decide, rfl⟩ rfl w645 w471 w472 w46 w473 (show CL[2]? = some (RX3, TX3, 5) from rfl) hd (by decide) (Nat.le_of_ble_eq_true rfl) rfl ha hst call (callk_r k)
theorem tX2_look_102 {i : Nat} {vs : List Value} {v : Value} (ha : At h i (.inr (3, vs))) (hv : vs[7]? = some v) (r : RQ G mX2_look d 105 [x0, x1, x2, x3, x4, x5] (v :: S) (h) P) : RQ G mX2_look d 102 [x0, x1, x2, x3, x4, x5] (.ref i :: S) h P := q_getN (M := mX2_look) (pc := 102) (kf := 7) dX2_look_102 (show CL[3]? = some (RX4, TX4, 10) from rfl) inA4 (by decide) rfl v171 ha hv r
theorem tX2_look_105 {k : Nat} (r : RQ G mX2_look d 106 [x0, x1, x2, some (.ref k), x4, x5] (.ref k :: S) (h) P) : RQ G mX2_look d 105 [x0, x1, x2, some (.ref k), x4, x5] (S) h P := q_aload_n (M := mX2_look) (pc := 105) (r0 := some k) dX2_look_105 rfl rfl r
theorem tX2_look_106 {i : Nat} {vs : List Value} {v : Value} (ha : At h i (.inr (2, vs))) (hv : vs[3]? = some v) (r : RQ G mX2_look d 109 [x0, x1, x2, x3, x4, x5] (v :: S) (h) P) : RQ G mX2_look d 106 [x0, x1, x2, x3, x4, x5] (.ref i :: S) h P := q_getN (M := mX2_look) (pc := 106) (kf := 3) dX2_look_106 (show CL[2]? = some (RX3, TX3, 5) from rfl) inA3 (by decide) rfl v210 ha hv r
theorem tX2_look_109 {v : Int32} (r : RQ G mX2_look d 110 [x0, x1, some (.int v), x3, x4, x5] (.int v :: S) (h) P) : RQ G mX2_look d 109 [x0, x1, some (.int v), x3, x4, x5] (S) h P := q_iload_n (M := mX2_look) (pc := 109) dX2_look_109 rfl rfl r
theorem tX2_look_110 {a n j : Nat} {x : Int32} {f : Nat → Int32} (ha : At h a (.inl (0, n, .inl f))) (hx : x = nI j) (hj : j < n) (hn : n < 2147483648) (r : RQ G mX2_look d 111 [x0, x1, x2, x3, x4, x5] (.int (f j) :: S) (h) P) : RQ G mX2_look d 110 [x0, x1, x2, x3, x4, x5] (.int x :: .ref a :: S) h P := q_iald (M := mX2_look) (pc := 110) dX2_look_110 ha hx hj hn r
theorem tX2_look_111 {x y : Int32} (kt : ¬ x = y → RQ G mX2_look d 118 [x0, x1, x2, x3, x4, x5] S h P) (kf : x = y → RQ G mX2_look d 114 [x0, x1, x2, x3, x4, x5] S h P) : RQ G mX2_look d 111 [x0, x1, x2, x3, x4, x5] (.int y :: .int x :: S) h P := q_icmp_ne (M := mX2_look) (pc := 111) dX2_look_111 (by decide) kt kf
theorem tX2_look_114 (r : RQ G mX2_look d 115 [x0, x1, x2, x3, x4, x5] (.int (nI 1) :: S) (h) P) : RQ G mX2_look d 114 [x0, x1, x2, x3, x4, x5] (S) h P := q_iconst (M := mX2_look) (pc := 114) dX2_look_114 (by decide) r
theorem tX2_look_115 (r : RQ G mX2_look d 119 [x0, x1, x2, x3, x4, x5] S h P) : RQ G mX2_look d 115 [x0, x1, x2, x3, x4, x5] (S) h P := q_goto (M := mX2_look) (pc := 115) dX2_look_115 (by decide) r
theorem tX2_look_118 (r : RQ G mX2_look d 119 [x0, x1, x2, x3, x4, x5] (.int (nI 0) :: S) (h) P) : RQ G mX2_look d 118 [x0, x1, x2, x3, x4, x5] (S) h P := q_iconst (M := mX2_look) (pc := 118) dX2_look_118 (by decide) r
theorem tX2_look_119 {x : Int32} (hP : P (.inl (some (.int x))) h) : RQ G mX2_look d 119 [x0, x1, x2, x3, x4, x5] ([.int x]) h P := q_ireturn (M := mX2_look) (pc := 119) (ty := .int) dX2_look_119 rfl rfl hP
theorem tX2_look_120 {k : Nat} (r : RQ G mX2_look d 121 [x0, x1, x2, some (.ref k), x4, x5] (.ref k :: S) (h) P) : RQ G mX2_look d 120 [x0, x1, x2, some (.ref k), x4, x5] (S) h P := q_aload_n (M := mX2_look) (pc := 120) (r0 := some k) dX2_look_120 rfl rfl r
theorem tX2_look_121 {i : Nat} {vs : List Value} {v : Value} (ha : At h i (.inr (2, vs))) (hv : vs[3]? = some v) (r : RQ G mX2_look d 124 [x0, x1, x2, x3, x4, x5] (v :: S) (h) P) : RQ G mX2_look d 121 [x0, x1, x2, x3, x4, x5] (.ref i :: S) h P := q_getN (M := mX2_look) (pc := 121) (kf := 3) dX2_look_121 (show CL[2]? = some (RX3, TX3, 5) from rfl) inA3 (by decide) rfl v210 ha hv r
theorem tX2_look_124 {v : Int32} (r : RQ G mX2_look d 126 [x0, x1, x2, x3, x4, some (.int v)] (.int v :: S) (h) P) : RQ G mX2_look d 124 [x0, x1, x2, x3, x4, some (.int v)] (S) h P := q_iload (M := mX2_look) (pc := 124) dX2_look_124 rfl r
theorem tX2_look_126 {a n j : Nat} {x : Int32} {f : Nat → Int32} (ha : At h a (.inl (0, n, .inl f))) (hx : x = nI j) (hj : j < n) (hn : n < 2147483648) (r : RQ G mX2_look d 127 [x0, x1, x2, x3, x4, x5] (.int (f j) :: S) (h) P) : RQ G mX2_look d 126 [x0, x1, x2, x3, x4, x5] (.int x :: .ref a :: S) h P := q_iald (M := mX2_look) (pc := 126) dX2_look_126 ha hx hj hn r
theorem tX2_look_127 {k : Nat} (r : RQ G mX2_look d 128 [x0, x1, x2, some (.ref k), x4, x5] (.ref k :: S) (h) P) : RQ G mX2_look d 127 [x0, x1, x2, some (.ref k), x4, x5] (S) h P := q_aload_n (M := mX2_look) (pc := 127) (r0 := some k) dX2_look_127 rfl rfl r
theorem tX2_look_128 {i : Nat} {vs : List Value} {v : Value} (ha : At h i (.inr (2, vs))) (hv : vs[3]? = some v) (r : RQ G mX2_look d 131 [x0, x1, x2, x3, x4, x5] (v :: S) (h) P) : RQ G mX2_look d 128 [x0, x1, x2, x3, x4, x5] (.ref i :: S) h P := q_getN (M := mX2_look) (pc := 128) (kf := 3) dX2_look_128 (show CL[2]? = some (RX3, TX3, 5) from rfl) inA3 (by decide) rfl v210 ha hv r
theorem tX2_look_131 {v : Int32} (r : RQ G mX2_look d 132 [x0, x1, some (.int v), x3, x4, x5] (.int v :: S) (h) P) : RQ G mX2_look d 131 [x0, x1, some (.int v), x3, x4, x5] (S) h P := q_iload_n (M := mX2_look) (pc := 131) dX2_look_131 rfl rfl r
theorem tX2_look_132 {a n j : Nat} {x : Int32} {f : Nat → Int32} (ha : At h a (.inl (0, n, .inl f))) (hx : x = nI j) (hj : j < n) (hn : n < 2147483648) (r : RQ G mX2_look d 133 [x0, x1, x2, x3, x4, x5] (.int (f j) :: S) (h) P) : RQ G mX2_look d 132 [x0, x1, x2, x3, x4, x5] (.int x :: .ref a :: S) h P := q_iald (M := mX2_look) (pc := 132) dX2_look_132 ha hx hj hn r
theorem tX2_look_133 {x y : Int32} (kt : ¬ x = y → RQ G mX2_look d 140 [x0, x1, x2, x3, x4, x5] S h P) (kf : x = y → RQ G mX2_look d 136 [x0, x1, x2, x3, x4, x5] S h P) : RQ G mX2_look d 133 [x0, x1, x2, x3, x4, x5] (.int y :: .int x :: S) h P := q_icmp_ne (M := mX2_look) (pc := 133) dX2_look_133 (by decide) kt kf
theorem tX2_look_136 (r : RQ G mX2_look d 137 [x0, x1, x2, x3, x4, x5] (.int (nI 1) :: S) (h) P) : RQ G mX2_look d 136 [x0, x1, x2, x3, x4, x5] (S) h P := q_iconst (M := mX2_look) (pc := 136) dX2_look_136 (by decide) r
theorem tX2_look_137 (r : RQ G mX2_look d 141 [x0, x1, x2, x3, x4, x5] S h P) : RQ G mX2_look d 137 [x0, x1, x2, x3, x4, x5] (S) h P := q_goto (M := mX2_look) (pc := 137) dX2_look_137 (by decide) r
theorem tX2_look_140 (r : RQ G mX2_look d 141 [x0, x1, x2, x3, x4, x5] (.int (nI 0) :: S) (h) P) : RQ G mX2_look d 140 [x0, x1, x2, x3, x4, x5] (S) h P := q_iconst (M := mX2_look) (pc := 140) dX2_look_140 (by decide) r
theorem tX2_look_141 {x : Int32} (hP : P (.inl (some (.int x))) h) : RQ G mX2_look d 141 [x0, x1, x2, x3, x4, x5] ([.int x]) h P := q_ireturn (M := mX2_look) (pc := 141) (ty := .int) dX2_look_141 rfl rfl hP
theorem tX2_look_142 {v : Int32} (r : RQ G mX2_look d 143 [x0, x1, some (.int v), x3, x4, x5] (.int v :: S) (h) P) : RQ G mX2_look d 142 [x0, x1, some (.int v), x3, x4, x5] (S) h P := q_iload_n (M := mX2_look) (pc := 142) dX2_look_142 rfl rfl r
theorem tX2_look_143 {x : Int32} (hP : P (.inl (some (.int x))) h) : RQ G mX2_look d 143 [x0, x1, x2, x3, x4, x5] ([.int x]) h P := q_ireturn (M := mX2_look) (pc := 143) (ty := .int) dX2_look_143 rfl rfl hP
end T
theorem dX2_reckon_0 : decode cX2_reckon 0 = .ok (.getstatic 73, 3) := by decide +kernel
theorem dX2_reckon_3 : decode cX2_reckon 3 = .ok (.aload_n 1, 1) := by decide +kernel
theorem dX2_reckon_4 : decode cX2_reckon 4 = .ok (.invokevirtual 78, 3) := by decide +kernel
theorem dX2_reckon_7 : decode cX2_reckon 7 = .ok (.iaload, 1) := by decide +kernel
theorem dX2_reckon_8 : decode cX2_reckon 8 = .ok (.tableswitch 93 15 21 #[44, 48, 52, 56, 67, 78, 89], 44) := by decide +kernel
theorem dX2_reckon_52 : decode cX2_reckon 52 = .ok (.iload_n 2, 1) := by decide +kernel
theorem dX2_reckon_53 : decode cX2_reckon 53 = .ok (.iload_n 3, 1) := by decide +kernel
theorem dX2_reckon_54 : decode cX2_reckon 54 = .ok (.iadd, 1) := by decide +kernel
theorem dX2_reckon_55 : decode cX2_reckon 55 = .ok (.ireturn, 1) := by decide +kernel
theorem dX2_reckon_56 : decode cX2_reckon 56 = .ok (.iload_n 2, 1) := by decide +kernel
theorem dX2_reckon_57 : decode cX2_reckon 57 = .ok (.iload_n 3, 1) := by decide +kernel
theorem dX2_reckon_58 : decode cX2_reckon 58 = .ok (.isub, 1) := by decide +kernel
theorem dX2_reckon_59 : decode cX2_reckon 59 = .ok (.ireturn, 1) := by decide +kernel
theorem dX2_reckon_60 : decode cX2_reckon 60 = .ok (.iload_n 2, 1) := by decide +kernel
theorem dX2_reckon_61 : decode cX2_reckon 61 = .ok (.iload_n 3, 1) := by decide +kernel
theorem dX2_reckon_62 : decode cX2_reckon 62 = .ok (.imul, 1) := by decide +kernel
theorem dX2_reckon_63 : decode cX2_reckon 63 = .ok (.ireturn, 1) := by decide +kernel
theorem dX2_reckon_64 : decode cX2_reckon 64 = .ok (.iload_n 2, 1) := by decide +kernel
theorem dX2_reckon_65 : decode cX2_reckon 65 = .ok (.iload_n 3, 1) := by decide +kernel
theorem dX2_reckon_66 : decode cX2_reckon 66 = .ok (.if_icmp .ge 7, 3) := by decide +kernel
theorem dX2_reckon_69 : decode cX2_reckon 69 = .ok (.iconst 1, 1) := by decide +kernel
theorem dX2_reckon_70 : decode cX2_reckon 70 = .ok (.goto 4, 3) := by decide +kernel
theorem dX2_reckon_73 : decode cX2_reckon 73 = .ok (.iconst 0, 1) := by decide +kernel
theorem dX2_reckon_74 : decode cX2_reckon 74 = .ok (.ireturn, 1) := by decide +kernel
theorem dX2_reckon_75 : decode cX2_reckon 75 = .ok (.iload_n 2, 1) := by decide +kernel
theorem dX2_reckon_76 : decode cX2_reckon 76 = .ok (.iload_n 3, 1) := by decide +kernel
theorem dX2_reckon_77 : decode cX2_reckon 77 = .ok (.if_icmp .le 7, 3) := by decide +kernel
theorem dX2_reckon_80 : decode cX2_reckon 80 = .ok (.iconst 1, 1) := by decide +kernel
theorem dX2_reckon_81 : decode cX2_reckon 81 = .ok (.goto 4, 3) := by decide +kernel
theorem dX2_reckon_84 : decode cX2_reckon 84 = .ok (.iconst 0, 1) := by decide +kernel
theorem dX2_reckon_85 : decode cX2_reckon 85 = .ok (.ireturn, 1) := by decide +kernel
theorem dX2_reckon_86 : decode cX2_reckon 86 = .ok (.iload_n 2, 1) := by decide +kernel
theorem dX2_reckon_87 : decode cX2_reckon 87 = .ok (.iload_n 3, 1) := by decide +kernel
theorem dX2_reckon_88 : decode cX2_reckon 88 = .ok (.if_icmp .ne 7, 3) := by decide +kernel
theorem dX2_reckon_91 : decode cX2_reckon 91 = .ok (.iconst 1, 1) := by decide +kernel
theorem dX2_reckon_92 : decode cX2_reckon 92 = .ok (.goto 4, 3) := by decide +kernel
theorem dX2_reckon_95 : decode cX2_reckon 95 = .ok (.iconst 0, 1) := by decide +kernel
theorem dX2_reckon_96 : decode cX2_reckon 96 = .ok (.ireturn, 1) := by decide +kernel
theorem dX2_reckon_97 : decode cX2_reckon 97 = .ok (.iload_n 2, 1) := by decide +kernel
theorem dX2_reckon_98 : decode cX2_reckon 98 = .ok (.iload_n 3, 1) := by decide +kernel
theorem dX2_reckon_99 : decode cX2_reckon 99 = .ok (.iand, 1) := by decide +kernel
theorem dX2_reckon_100 : decode cX2_reckon 100 = .ok (.ireturn, 1) := by decide +kernel
theorem dX2_reckon_101 : decode cX2_reckon 101 = .ok (.iload_n 2, 1) := by decide +kernel
theorem dX2_reckon_102 : decode cX2_reckon 102 = .ok (.iload_n 3, 1) := by decide +kernel
theorem dX2_reckon_103 : decode cX2_reckon 103 = .ok (.ior, 1) := by decide +kernel
theorem dX2_reckon_104 : decode cX2_reckon 104 = .ok (.ireturn, 1) := by decide +kernel
section T
variable {G : GT} {d : Nat} {S : List Value} {h : AH} {P : OC → AH → Prop} {x0 x1 x2 x3 x4 x5 x6 x7 x8 x9 x10 x11 x12 x13 x14 x15 : Option Value}
theorem tX2_reckon_3 {k : Nat} (r : RQ G mX2_reckon d 4 [x0, some (.ref k), x2, x3] (.ref k :: S) (h) P) : RQ G mX2_reckon d 3 [x0, some (.ref k), x2, x3] (S) h P := q_aload_n (M := mX2_reckon) (pc := 3) (r0 := some k) dX2_reckon_3 rfl rfl r
theorem tX2_reckon_7 {a n j : Nat} {x : Int32} {f : Nat → Int32} (ha : At h a (.inl (0, n, .inl f))) (hx : x = nI j) (hj : j < n) (hn : n < 2147483648) (r : RQ G mX2_reckon d 8 [x0, x1, x2, x3] (.int (f j) :: S) (h) P) : RQ G mX2_reckon d 7 [x0, x1, x2, x3] (.int x :: .ref a :: S) h P := q_iald (M := mX2_reckon) (pc := 7) dX2_reckon_7 ha hx hj hn r
theorem tX2_reckon_52 {v : Int32} (r : RQ G mX2_reckon d 53 [x0, x1, some (.int v), x3] (.int v :: S) (h) P) : RQ G mX2_reckon d 52 [x0, x1, some (.int v), x3] (S) h P := q_iload_n (M := mX2_reckon) (pc := 52) dX2_reckon_52 rfl rfl r
theorem tX2_reckon_53 {v : Int32} (r : RQ G mX2_reckon d 54 [x0, x1, x2, some (.int v)] (.int v :: S) (h) P) : RQ G mX2_reckon d 53 [x0, x1, x2, some (.int v)] (S) h P := q_iload_n (M := mX2_reckon) (pc := 53) dX2_reckon_53 rfl rfl r
theorem tX2_reckon_54 {x y : Int32} (r : RQ G mX2_reckon d 55 [x0, x1, x2, x3] (.int (x + y) :: S) (h) P) : RQ G mX2_reckon d 54 [x0, x1, x2, x3] (.int y :: .int x :: S) h P := q_iadd (M := mX2_reckon) (pc := 54) dX2_reckon_54 r
theorem tX2_reckon_55 {x : Int32} (hP : P (.inl (some (.int x))) h) : RQ G mX2_reckon d 55 [x0, x1, x2, x3] ([.int x]) h P := q_ireturn (M := mX2_reckon) (pc := 55) (ty := .int) dX2_reckon_55 rfl rfl hP
theorem tX2_reckon_56 {v : Int32} (r : RQ G mX2_reckon d 57 [x0, x1, some (.int v), x3] (.int v :: S) (h) P) : RQ G mX2_reckon d 56 [x0, x1, some (.int v), x3] (S) h P := q_iload_n (M := mX2_reckon) (pc := 56) dX2_reckon_56 rfl rfl r
theorem tX2_reckon_57 {v : Int32} (r : RQ G mX2_reckon d 58 [x0, x1, x2, some (.int v)] (.int v :: S) (h) P) : RQ G mX2_reckon d 57 [x0, x1, x2, some (.int v)] (S) h P := q_iload_n (M := mX2_reckon) (pc := 57) dX2_reckon_57 rfl rfl r
theorem tX2_reckon_58 {x y : Int32} (r : RQ G mX2_reckon d 59 [x0, x1, x2, x3] (.int (x - y) :: S) (h) P) : RQ G mX2_reckon d 58 [x0, x1, x2, x3] (.int y :: .int x :: S) h P := q_isub (M := mX2_reckon) (pc := 58) dX2_reckon_58 r
theorem tX2_reckon_59 {x : Int32} (hP : P (.inl (some (.int x))) h) : RQ G mX2_reckon d 59 [x0, x1, x2, x3] ([.int x]) h P := q_ireturn (M := mX2_reckon) (pc := 59) (ty := .int) dX2_reckon_59 rfl rfl hP
theorem tX2_reckon_60 {v : Int32} (r : RQ G mX2_reckon d 61 [x0, x1, some (.int v), x3] (.int v :: S) (h) P) : RQ G mX2_reckon d 60 [x0, x1, some (.int v), x3] (S) h P := q_iload_n (M := mX2_reckon) (pc := 60) dX2_reckon_60 rfl rfl r
theorem tX2_reckon_61 {v : Int32} (r : RQ G mX2_reckon d 62 [x0, x1, x2, some (.int v)] (.int v :: S) (h) P) : RQ G mX2_reckon d 61 [x0, x1, x2, some (.int v)] (S) h P := q_iload_n (M := mX2_reckon) (pc := 61) dX2_reckon_61 rfl rfl r
theorem tX2_reckon_62 {x y : Int32} (r : RQ G mX2_reckon d 63 [x0, x1, x2, x3] (.int (x * y) :: S) (h) P) : RQ G mX2_reckon d 62 [x0, x1, x2, x3] (.int y :: .int x :: S) h P := q_imul (M := mX2_reckon) (pc := 62) dX2_reckon_62 r
theorem tX2_reckon_63 {x : Int32} (hP : P (.inl (some (.int x))) h) : RQ G mX2_reckon d 63 [x0, x1, x2, x3] ([.int x]) h P := q_ireturn (M := mX2_reckon) (pc := 63) (ty := .int) dX2_reckon_63 rfl rfl hP
theorem tX2_reckon_64 {v : Int32} (r : RQ G mX2_reckon d 65 [x0, x1, some (.int v), x3] (.int v :: S) (h) P) : RQ G mX2_reckon d 64 [x0, x1, some (.int v), x3] (S) h P := q_iload_n (M := mX2_reckon) (pc := 64) dX2_reckon_64 rfl rfl r
theorem tX2_reckon_65 {v : Int32} (r : RQ G mX2_reckon d 66 [x0, x1, x2, some (.int v)] (.int v :: S) (h) P) : RQ G mX2_reckon d 65 [x0, x1, x2, some (.int v)] (S) h P := q_iload_n (M := mX2_reckon) (pc := 65) dX2_reckon_65 rfl rfl r
theorem tX2_reckon_66 {x y : Int32} (kt : y ≤ x → RQ G mX2_reckon d 73 [x0, x1, x2, x3] S h P) (kf : ¬ y ≤ x → RQ G mX2_reckon d 69 [x0, x1, x2, x3] S h P) : RQ G mX2_reckon d 66 [x0, x1, x2, x3] (.int y :: .int x :: S) h P := q_icmp_ge (M := mX2_reckon) (pc := 66) dX2_reckon_66 (by decide) kt kf
theorem tX2_reckon_69 (r : RQ G mX2_reckon d 70 [x0, x1, x2, x3] (.int (nI 1) :: S) (h) P) : RQ G mX2_reckon d 69 [x0, x1, x2, x3] (S) h P := q_iconst (M := mX2_reckon) (pc := 69) dX2_reckon_69 (by decide) r
theorem tX2_reckon_70 (r : RQ G mX2_reckon d 74 [x0, x1, x2, x3] S h P) : RQ G mX2_reckon d 70 [x0, x1, x2, x3] (S) h P := q_goto (M := mX2_reckon) (pc := 70) dX2_reckon_70 (by decide) r
theorem tX2_reckon_73 (r : RQ G mX2_reckon d 74 [x0, x1, x2, x3] (.int (nI 0) :: S) (h) P) : RQ G mX2_reckon d 73 [x0, x1, x2, x3] (S) h P := q_iconst (M := mX2_reckon) (pc := 73) dX2_reckon_73 (by decide) r
theorem tX2_reckon_74 {x : Int32} (hP : P (.inl (some (.int x))) h) : RQ G mX2_reckon d 74 [x0, x1, x2, x3] ([.int x]) h P := q_ireturn (M := mX2_reckon) (pc := 74) (ty := .int) dX2_reckon_74 rfl rfl hP
theorem tX2_reckon_75 {v : Int32} (r : RQ G mX2_reckon d 76 [x0, x1, some (.int v), x3] (.int v :: S) (h) P) : RQ G mX2_reckon d 75 [x0, x1, some (.int v), x3] (S) h P := q_iload_n (M := mX2_reckon) (pc := 75) dX2_reckon_75 rfl rfl r
theorem tX2_reckon_76 {v : Int32} (r : RQ G mX2_reckon d 77 [x0, x1, x2, some (.int v)] (.int v :: S) (h) P) : RQ G mX2_reckon d 76 [x0, x1, x2, some (.int v)] (S) h P := q_iload_n (M := mX2_reckon) (pc := 76) dX2_reckon_76 rfl rfl r
theorem tX2_reckon_77 {x y : Int32} (kt : x ≤ y → RQ G mX2_reckon d 84 [x0, x1, x2, x3] S h P) (kf : ¬ x ≤ y → RQ G mX2_reckon d 80 [x0, x1, x2, x3] S h P) : RQ G mX2_reckon d 77 [x0, x1, x2, x3] (.int y :: .int x :: S) h P := q_icmp_le (M := mX2_reckon) (pc := 77) dX2_reckon_77 (by decide) kt kf
theorem tX2_reckon_80 (r : RQ G mX2_reckon d 81 [x0, x1, x2, x3] (.int (nI 1) :: S) (h) P) : RQ G mX2_reckon d 80 [x0, x1, x2, x3] (S) h P := q_iconst (M := mX2_reckon) (pc := 80) dX2_reckon_80 (by decide) r
theorem tX2_reckon_81 (r : RQ G mX2_reckon d 85 [x0, x1, x2, x3] S h P) : RQ G mX2_reckon d 81 [x0, x1, x2, x3] (S) h P := q_goto (M := mX2_reckon) (pc := 81) dX2_reckon_81 (by decide) r
theorem tX2_reckon_84 (r : RQ G mX2_reckon d 85 [x0, x1, x2, x3] (.int (nI 0) :: S) (h) P) : RQ G mX2_reckon d 84 [x0, x1, x2, x3] (S) h P := q_iconst (M := mX2_reckon) (pc := 84) dX2_reckon_84 (by decide) r
theorem tX2_reckon_85 {x : Int32} (hP : P (.inl (some (.int x))) h) : RQ G mX2_reckon d 85 [x0, x1, x2, x3] ([.int x]) h P := q_ireturn (M := mX2_reckon) (pc := 85) (ty := .int) dX2_reckon_85 rfl rfl hP
theorem tX2_reckon_86 {v : Int32} (r : RQ G mX2_reckon d 87 [x0, x1, some (.int v), x3] (.int v :: S) (h) P) : RQ G mX2_reckon d 86 [x0, x1, some (.int v), x3] (S) h P := q_iload_n (M := mX2_reckon) (pc := 86) dX2_reckon_86 rfl rfl r
theorem tX2_reckon_87 {v : Int32} (r : RQ G mX2_reckon d 88 [x0, x1, x2, some (.int v)] (.int v :: S) (h) P) : RQ G mX2_reckon d 87 [x0, x1, x2, some (.int v)] (S) h P := q_iload_n (M := mX2_reckon) (pc := 87) dX2_reckon_87 rfl rfl r
theorem tX2_reckon_88 {x y : Int32} (kt : ¬ x = y → RQ G mX2_reckon d 95 [x0, x1, x2, x3] S h P) (kf : x = y → RQ G mX2_reckon d 91 [x0, x1, x2, x3] S h P) : RQ G mX2_reckon d 88 [x0, x1, x2, x3] (.int y :: .int x :: S) h P := q_icmp_ne (M := mX2_reckon) (pc := 88) dX2_reckon_88 (by decide) kt kf
theorem tX2_reckon_91 (r : RQ G mX2_reckon d 92 [x0, x1, x2, x3] (.int (nI 1) :: S) (h) P) : RQ G mX2_reckon d 91 [x0, x1, x2, x3] (S) h P := q_iconst (M := mX2_reckon) (pc := 91) dX2_reckon_91 (by decide) r
theorem tX2_reckon_92 (r : RQ G mX2_reckon d 96 [x0, x1, x2, x3] S h P) : RQ G mX2_reckon d 92 [x0, x1, x2, x3] (S) h P := q_goto (M := mX2_reckon) (pc := 92) dX2_reckon_92 (by decide) r
theorem tX2_reckon_95 (r : RQ G mX2_reckon d 96 [x0, x1, x2, x3] (.int (nI 0) :: S) (h) P) : RQ G mX2_reckon d 95 [x0, x1, x2, x3] (S) h P := q_iconst (M := mX2_reckon) (pc := 95) dX2_reckon_95 (by decide) r
theorem tX2_reckon_96 {x : Int32} (hP : P (.inl (some (.int x))) h) : RQ G mX2_reckon d 96 [x0, x1, x2, x3] ([.int x]) h P := q_ireturn (M := mX2_reckon) (pc := 96) (ty := .int) dX2_reckon_96 rfl rfl hP
theorem tX2_reckon_97 {v : Int32} (r : RQ G mX2_reckon d 98 [x0, x1, some (.int v), x3] (.int v :: S) (h) P) : RQ G mX2_reckon d 97 [x0, x1, some (.int v), x3] (S) h P := q_iload_n (M := mX2_reckon) (pc := 97) dX2_reckon_97 rfl rfl r
theorem tX2_reckon_98 {v : Int32} (r : RQ G mX2_reckon d 99 [x0, x1, x2, some (.int v)] (.int v :: S) (h) P) : RQ G mX2_reckon d 98 [x0, x1, x2, some (.int v)] (S) h P := q_iload_n (M := mX2_reckon) (pc := 98) dX2_reckon_98 rfl rfl r
theorem tX2_reckon_99 {x y : Int32} (r : RQ G mX2_reckon d 100 [x0, x1, x2, x3] (.int (x &&& y) :: S) (h) P) : RQ G mX2_reckon d 99 [x0, x1, x2, x3] (.int y :: .int x :: S) h P := q_iand (M := mX2_reckon) (pc := 99) dX2_reckon_99 r
theorem tX2_reckon_100 {x : Int32} (hP : P (.inl (some (.int x))) h) : RQ G mX2_reckon d 100 [x0, x1, x2, x3] ([.int x]) h P := q_ireturn (M := mX2_reckon) (pc := 100) (ty := .int) dX2_reckon_100 rfl rfl hP
theorem tX2_reckon_101 {v : Int32} (r : RQ G mX2_reckon d 102 [x0, x1, some (.int v), x3] (.int v :: S) (h) P) : RQ G mX2_reckon d 101 [x0, x1, some (.int v), x3] (S) h P := q_iload_n (M := mX2_reckon) (pc := 101) dX2_reckon_101 rfl rfl r
theorem tX2_reckon_102 {v : Int32} (r : RQ G mX2_reckon d 103 [x0, x1, x2, some (.int v)] (.int v :: S) (h) P) : RQ G mX2_reckon d 102 [x0, x1, x2, some (.int v)] (S) h P := q_iload_n (M := mX2_reckon) (pc := 102) dX2_reckon_102 rfl rfl r
theorem tX2_reckon_103 {x y : Int32} (r : RQ G mX2_reckon d 104 [x0, x1, x2, x3] (.int (x ||| y) :: S) (h) P) : RQ G mX2_reckon d 103 [x0, x1, x2, x3] (.int y :: .int x :: S) h P := q_ior (M := mX2_reckon) (pc := 103) dX2_reckon_103 r
theorem tX2_reckon_104 {x : Int32} (hP : P (.inl (some (.int x))) h) : RQ G mX2_reckon d 104 [x0, x1, x2, x3] ([.int x]) h P := q_ireturn (M := mX2_reckon) (pc := 104) (ty := .int) dX2_reckon_104 rfl rfl hP
end T
theorem dX2_push_0 : decode cX2_push 0 = .ok (.aload_n 0, 1) := by decide +kernel
theorem dX2_push_1 : decode cX2_push 1 = .ok (.getfield 62, 3) := by decide +kernel
theorem dX2_push_4 : decode cX2_push 4 = .ok (.aload_n 0, 1) := by decide +kernel
theorem dX2_push_5 : decode cX2_push 5 = .ok (.getfield 9, 3) := by decide +kernel
theorem dX2_push_8 : decode cX2_push 8 = .ok (.arraylength, 1) := by decide +kernel
theorem dX2_push_9 : decode cX2_push 9 = .ok (.if_icmp .ge 23, 3) := by decide +kernel
theorem dX2_push_12 : decode cX2_push 12 = .ok (.aload_n 0, 1) := by decide +kernel
theorem dX2_push_13 : decode cX2_push 13 = .ok (.getfield 9, 3) := by decide +kernel
theorem dX2_push_16 : decode cX2_push 16 = .ok (.aload_n 0, 1) := by decide +kernel
theorem dX2_push_17 : decode cX2_push 17 = .ok (.getfield 62, 3) := by decide +kernel
theorem dX2_push_20 : decode cX2_push 20 = .ok (.iload_n 1, 1) := by decide +kernel
theorem dX2_push_21 : decode cX2_push 21 = .ok (.iastore, 1) := by decide +kernel
theorem dX2_push_22 : decode cX2_push 22 = .ok (.aload_n 0, 1) := by decide +kernel
theorem dX2_push_23 : decode cX2_push 23 = .ok (.dup, 1) := by decide +kernel
theorem dX2_push_24 : decode cX2_push 24 = .ok (.getfield 62, 3) := by decide +kernel
theorem dX2_push_27 : decode cX2_push 27 = .ok (.iconst 1, 1) := by decide +kernel
theorem dX2_push_28 : decode cX2_push 28 = .ok (.iadd, 1) := by decide +kernel
theorem dX2_push_29 : decode cX2_push 29 = .ok (.putfield 62, 3) := by decide +kernel
theorem dX2_push_32 : decode cX2_push 32 = .ok (.return_, 1) := by decide +kernel
section T
variable {G : GT} {d : Nat} {S : List Value} {h : AH} {P : OC → AH → Prop} {x0 x1 x2 x3 x4 x5 x6 x7 x8 x9 x10 x11 x12 x13 x14 x15 : Option Value}
theorem tX2_push_0 {k : Nat} (r : RQ G mX2_push d 1 [some (.ref k), x1] (.ref k :: S) (h) P) : RQ G mX2_push d 0 [some (.ref k), x1] (S) h P := q_aload_n (M := mX2_push) (pc := 0) (r0 := some k) dX2_push_0 rfl rfl r
theorem tX2_push_1 {i : Nat} {vs : List Value} {v : Value} (ha : At h i (.inr (1, vs))) (hv : vs[1]? = some v) (r : RQ G mX2_push d 4 [x0, x1] (v :: S) (h) P) : RQ G mX2_push d 1 [x0, x1] (.ref i :: S) h P := q_get (M := mX2_push) (pc := 1) (kf := 1) dX2_push_1 (show CL[1]? = some (RX2, TX2, 3) from rfl) inA2 (by decide) rfl w350 ha hv r
theorem tX2_push_4 {k : Nat} (r : RQ G mX2_push d 5 [some (.ref k), x1] (.ref k :: S) (h) P) : RQ G mX2_push d 4 [some (.ref k), x1] (S) h P := q_aload_n (M := mX2_push) (pc := 4) (r0 := some k) dX2_push_4 rfl rfl r
theorem tX2_push_5 {i : Nat} {vs : List Value} {v : Value} (ha : At h i (.inr (1, vs))) (hv : vs[0]? = some v) (r : RQ G mX2_push d 8 [x0, x1] (v :: S) (h) P) : RQ G mX2_push d 5 [x0, x1] (.ref i :: S) h P := q_get (M := mX2_push) (pc := 5) (kf := 0) dX2_push_5 (show CL[1]? = some (RX2, TX2, 3) from rfl) inA2 (by decide) rfl w349 ha hv r
theorem tX2_push_8 {a n : Nat} {f : Nat → Int32} (ha : At h a (.inl (0, n, .inl f))) (r : RQ G mX2_push d 9 [x0, x1] (.int (nI n) :: S) (h) P) : RQ G mX2_push d 8 [x0, x1] (.ref a :: S) h P := q_alen (M := mX2_push) (pc := 8) (t := 0) dX2_push_8 rfl ha rfl r
theorem tX2_push_9 {x y : Int32} (kt : y ≤ x → RQ G mX2_push d 32 [x0, x1] S h P) (kf : ¬ y ≤ x → RQ G mX2_push d 12 [x0, x1] S h P) : RQ G mX2_push d 9 [x0, x1] (.int y :: .int x :: S) h P := q_icmp_ge (M := mX2_push) (pc := 9) dX2_push_9 (by decide) kt kf
theorem tX2_push_12 {k : Nat} (r : RQ G mX2_push d 13 [some (.ref k), x1] (.ref k :: S) (h) P) : RQ G mX2_push d 12 [some (.ref k), x1] (S) h P := q_aload_n (M := mX2_push) (pc := 12) (r0 := some k) dX2_push_12 rfl rfl r
theorem tX2_push_13 {i : Nat} {vs : List Value} {v : Value} (ha : At h i (.inr (1, vs))) (hv : vs[0]? = some v) (r : RQ G mX2_push d 16 [x0, x1] (v :: S) (h) P) : RQ G mX2_push d 13 [x0, x1] (.ref i :: S) h P := q_get (M := mX2_push) (pc := 13) (kf := 0) dX2_push_13 (show CL[1]? = some (RX2, TX2, 3) from rfl) inA2 (by decide) rfl w349 ha hv r
theorem tX2_push_16 {k : Nat} (r : RQ G mX2_push d 17 [some (.ref k), x1] (.ref k :: S) (h) P) : RQ G mX2_push d 16 [some (.ref k), x1] (S) h P := q_aload_n (M := mX2_push) (pc := 16) (r0 := some k) dX2_push_16 rfl rfl r
theorem tX2_push_17 {i : Nat} {vs : List Value} {v : Value} (ha : At h i (.inr (1, vs))) (hv : vs[1]? = some v) (r : RQ G mX2_push d 20 [x0, x1] (v :: S) (h) P) : RQ G mX2_push d 17 [x0, x1] (.ref i :: S) h P := q_get (M := mX2_push) (pc := 17) (kf := 1) dX2_push_17 (show CL[1]? = some (RX2, TX2, 3) from rfl) inA2 (by decide) rfl w350 ha hv r
theorem tX2_push_20 {v : Int32} (r : RQ G mX2_push d 21 [x0, some (.int v)] (.int v :: S) (h) P) : RQ G mX2_push d 20 [x0, some (.int v)] (S) h P := q_iload_n (M := mX2_push) (pc := 20) dX2_push_20 rfl rfl r
theorem tX2_push_21 {a n j : Nat} {x : Int32} {v : Int32} {f : Nat → Int32} (ha : At h a (.inl (0, n, .inl f))) (hx : x = nI j) (hj : j < n) (hn : n < 2147483648) (r : RQ G mX2_push d 22 [x0, x1] (S) (hset h a (.inl (0, n, .inl (upd f j v)))) P) : RQ G mX2_push d 21 [x0, x1] (.int v :: .int x :: .ref a :: S) h P := q_iast (M := mX2_push) (pc := 21) dX2_push_21 ha hx hj hn r
theorem tX2_push_22 {k : Nat} (r : RQ G mX2_push d 23 [some (.ref k), x1] (.ref k :: S) (h) P) : RQ G mX2_push d 22 [some (.ref k), x1] (S) h P := q_aload_n (M := mX2_push) (pc := 22) (r0 := some k) dX2_push_22 rfl rfl r
theorem tX2_push_23 {v : Value} (hv : ok1 (some v) = true := by rfl) (r : RQ G mX2_push d 24 [x0, x1] (v :: v :: S) (h) P) : RQ G mX2_push d 23 [x0, x1] (v :: S) h P := q_dup (M := mX2_push) (pc := 23) dX2_push_23 hv r
theorem tX2_push_24 {i : Nat} {vs : List Value} {v : Value} (ha : At h i (.inr (1, vs))) (hv : vs[1]? = some v) (r : RQ G mX2_push d 27 [x0, x1] (v :: S) (h) P) : RQ G mX2_push d 24 [x0, x1] (.ref i :: S) h P := q_get (M := mX2_push) (pc := 24) (kf := 1) dX2_push_24 (show CL[1]? = some (RX2, TX2, 3) from rfl) inA2 (by decide) rfl w350 ha hv r
theorem tX2_push_27 (r : RQ G mX2_push d 28 [x0, x1] (.int (nI 1) :: S) (h) P) : RQ G mX2_push d 27 [x0, x1] (S) h P := q_iconst (M := mX2_push) (pc := 27) dX2_push_27 (by decide) r
theorem tX2_push_28 {x y : Int32} (r : RQ G mX2_push d 29 [x0, x1] (.int (x + y) :: S) (h) P) : RQ G mX2_push d 28 [x0, x1] (.int y :: .int x :: S) h P := q_iadd (M := mX2_push) (pc := 28) dX2_push_28 r
theorem tX2_push_29 {i : Nat} {vs : List Value} {v : Int32} (ha : At h i (.inr (1, vs))) (hlen : vs.length = 3) (r : RQ G mX2_push d 32 [x0, x1] (S) (hset h i (.inr (1, vs.set 1 (.int v)))) P) : RQ G mX2_push d 29 [x0, x1] (.int v :: .ref i :: S) h P := q_put (M := mX2_push) (pc := 29) (kf := 1) (host := "") dX2_push_29 (show CL[1]? = some (RX2, TX2, 3) from rfl) inA2 tyX2_ok nmX2 (by decide) rfl w350 rfl (tyX2_ok 1 (by decide)) (nfit_int v) (by rw [hlen]; decide) ha r
theorem tX2_push_32 (hP : P (.inl none) h) : RQ G mX2_push d 32 [x0, x1] ([]) h P := q_return (M := mX2_push) (pc := 32) dX2_push_32 rfl hP
end T
theorem dX2_pop_0 : decode cX2_pop 0 = .ok (.aload_n 0, 1) := by decide +kernel
theorem dX2_pop_1 : decode cX2_pop 1 = .ok (.getfield 62, 3) := by decide +kernel
theorem dX2_pop_4 : decode cX2_pop 4 = .ok (.iconst 1, 1) := by decide +kernel
theorem dX2_pop_5 : decode cX2_pop 5 = .ok (.if_icmp .ge 5, 3) := by decide +kernel
theorem dX2_pop_8 : decode cX2_pop 8 = .ok (.iconst 0, 1) := by decide +kernel
theorem dX2_pop_9 : decode cX2_pop 9 = .ok (.ireturn, 1) := by decide +kernel
theorem dX2_pop_10 : decode cX2_pop 10 = .ok (.aload_n 0, 1) := by decide +kernel
theorem dX2_pop_11 : decode cX2_pop 11 = .ok (.dup, 1) := by decide +kernel
theorem dX2_pop_12 : decode cX2_pop 12 = .ok (.getfield 62, 3) := by decide +kernel
theorem dX2_pop_15 : decode cX2_pop 15 = .ok (.iconst 1, 1) := by decide +kernel
theorem dX2_pop_16 : decode cX2_pop 16 = .ok (.isub, 1) := by decide +kernel
theorem dX2_pop_17 : decode cX2_pop 17 = .ok (.putfield 62, 3) := by decide +kernel
theorem dX2_pop_20 : decode cX2_pop 20 = .ok (.aload_n 0, 1) := by decide +kernel
theorem dX2_pop_21 : decode cX2_pop 21 = .ok (.getfield 9, 3) := by decide +kernel
theorem dX2_pop_24 : decode cX2_pop 24 = .ok (.aload_n 0, 1) := by decide +kernel
theorem dX2_pop_25 : decode cX2_pop 25 = .ok (.getfield 62, 3) := by decide +kernel
theorem dX2_pop_28 : decode cX2_pop 28 = .ok (.iaload, 1) := by decide +kernel
theorem dX2_pop_29 : decode cX2_pop 29 = .ok (.ireturn, 1) := by decide +kernel
section T
variable {G : GT} {d : Nat} {S : List Value} {h : AH} {P : OC → AH → Prop} {x0 x1 x2 x3 x4 x5 x6 x7 x8 x9 x10 x11 x12 x13 x14 x15 : Option Value}
theorem tX2_pop_0 {k : Nat} (r : RQ G mX2_pop d 1 [some (.ref k)] (.ref k :: S) (h) P) : RQ G mX2_pop d 0 [some (.ref k)] (S) h P := q_aload_n (M := mX2_pop) (pc := 0) (r0 := some k) dX2_pop_0 rfl rfl r
theorem tX2_pop_1 {i : Nat} {vs : List Value} {v : Value} (ha : At h i (.inr (1, vs))) (hv : vs[1]? = some v) (r : RQ G mX2_pop d 4 [x0] (v :: S) (h) P) : RQ G mX2_pop d 1 [x0] (.ref i :: S) h P := q_get (M := mX2_pop) (pc := 1) (kf := 1) dX2_pop_1 (show CL[1]? = some (RX2, TX2, 3) from rfl) inA2 (by decide) rfl w350 ha hv r
theorem tX2_pop_4 (r : RQ G mX2_pop d 5 [x0] (.int (nI 1) :: S) (h) P) : RQ G mX2_pop d 4 [x0] (S) h P := q_iconst (M := mX2_pop) (pc := 4) dX2_pop_4 (by decide) r
theorem tX2_pop_5 {x y : Int32} (kt : y ≤ x → RQ G mX2_pop d 10 [x0] S h P) (kf : ¬ y ≤ x → RQ G mX2_pop d 8 [x0] S h P) : RQ G mX2_pop d 5 [x0] (.int y :: .int x :: S) h P := q_icmp_ge (M := mX2_pop) (pc := 5) dX2_pop_5 (by decide) kt kf
theorem tX2_pop_8 (r : RQ G mX2_pop d 9 [x0] (.int (nI 0) :: S) (h) P) : RQ G mX2_pop d 8 [x0] (S) h P := q_iconst (M := mX2_pop) (pc := 8) dX2_pop_8 (by decide) r
theorem tX2_pop_9 {x : Int32} (hP : P (.inl (some (.int x))) h) : RQ G mX2_pop d 9 [x0] ([.int x]) h P := q_ireturn (M := mX2_pop) (pc := 9) (ty := .int) dX2_pop_9 rfl rfl hP
theorem tX2_pop_10 {k : Nat} (r : RQ G mX2_pop d 11 [some (.ref k)] (.ref k :: S) (h) P) : RQ G mX2_pop d 10 [some (.ref k)] (S) h P := q_aload_n (M := mX2_pop) (pc := 10) (r0 := some k) dX2_pop_10 rfl rfl r
theorem tX2_pop_11 {v : Value} (hv : ok1 (some v) = true := by rfl) (r : RQ G mX2_pop d 12 [x0] (v :: v :: S) (h) P) : RQ G mX2_pop d 11 [x0] (v :: S) h P := q_dup (M := mX2_pop) (pc := 11) dX2_pop_11 hv r
theorem tX2_pop_12 {i : Nat} {vs : List Value} {v : Value} (ha : At h i (.inr (1, vs))) (hv : vs[1]? = some v) (r : RQ G mX2_pop d 15 [x0] (v :: S) (h) P) : RQ G mX2_pop d 12 [x0] (.ref i :: S) h P := q_get (M := mX2_pop) (pc := 12) (kf := 1) dX2_pop_12 (show CL[1]? = some (RX2, TX2, 3) from rfl) inA2 (by decide) rfl w350 ha hv r
theorem tX2_pop_15 (r : RQ G mX2_pop d 16 [x0] (.int (nI 1) :: S) (h) P) : RQ G mX2_pop d 15 [x0] (S) h P := q_iconst (M := mX2_pop) (pc := 15) dX2_pop_15 (by decide) r
theorem tX2_pop_16 {x y : Int32} (r : RQ G mX2_pop d 17 [x0] (.int (x - y) :: S) (h) P) : RQ G mX2_pop d 16 [x0] (.int y :: .int x :: S) h P := q_isub (M := mX2_pop) (pc := 16) dX2_pop_16 r
theorem tX2_pop_17 {i : Nat} {vs : List Value} {v : Int32} (ha : At h i (.inr (1, vs))) (hlen : vs.length = 3) (r : RQ G mX2_pop d 20 [x0] (S) (hset h i (.inr (1, vs.set 1 (.int v)))) P) : RQ G mX2_pop d 17 [x0] (.int v :: .ref i :: S) h P := q_put (M := mX2_pop) (pc := 17) (kf := 1) (host := "") dX2_pop_17 (show CL[1]? = some (RX2, TX2, 3) from rfl) inA2 tyX2_ok nmX2 (by decide) rfl w350 rfl (tyX2_ok 1 (by decide)) (nfit_int v) (by rw [hlen]; decide) ha r
theorem tX2_pop_20 {k : Nat} (r : RQ G mX2_pop d 21 [some (.ref k)] (.ref k :: S) (h) P) : RQ G mX2_pop d 20 [some (.ref k)] (S) h P := q_aload_n (M := mX2_pop) (pc := 20) (r0 := some k) dX2_pop_20 rfl rfl r
theorem tX2_pop_21 {i : Nat} {vs : List Value} {v : Value} (ha : At h i (.inr (1, vs))) (hv : vs[0]? = some v) (r : RQ G mX2_pop d 24 [x0] (v :: S) (h) P) : RQ G mX2_pop d 21 [x0] (.ref i :: S) h P := q_get (M := mX2_pop) (pc := 21) (kf := 0) dX2_pop_21 (show CL[1]? = some (RX2, TX2, 3) from rfl) inA2 (by decide) rfl w349 ha hv r
theorem tX2_pop_24 {k : Nat} (r : RQ G mX2_pop d 25 [some (.ref k)] (.ref k :: S) (h) P) : RQ G mX2_pop d 24 [some (.ref k)] (S) h P := q_aload_n (M := mX2_pop) (pc := 24) (r0 := some k) dX2_pop_24 rfl rfl r
theorem tX2_pop_25 {i : Nat} {vs : List Value} {v : Value} (ha : At h i (.inr (1, vs))) (hv : vs[1]? = some v) (r : RQ G mX2_pop d 28 [x0] (v :: S) (h) P) : RQ G mX2_pop d 25 [x0] (.ref i :: S) h P := q_get (M := mX2_pop) (pc := 25) (kf := 1) dX2_pop_25 (show CL[1]? = some (RX2, TX2, 3) from rfl) inA2 (by decide) rfl w350 ha hv r
theorem tX2_pop_28 {a n j : Nat} {x : Int32} {f : Nat → Int32} (ha : At h a (.inl (0, n, .inl f))) (hx : x = nI j) (hj : j < n) (hn : n < 2147483648) (r : RQ G mX2_pop d 29 [x0] (.int (f j) :: S) (h) P) : RQ G mX2_pop d 28 [x0] (.int x :: .ref a :: S) h P := q_iald (M := mX2_pop) (pc := 28) dX2_pop_28 ha hx hj hn r
theorem tX2_pop_29 {x : Int32} (hP : P (.inl (some (.int x))) h) : RQ G mX2_pop d 29 [x0] ([.int x]) h P := q_ireturn (M := mX2_pop) (pc := 29) (ty := .int) dX2_pop_29 rfl rfl hP
end T
