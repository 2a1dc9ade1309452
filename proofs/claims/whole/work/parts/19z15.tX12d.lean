theorem dX12_leadingNow_0 : decode cX12_leadingNow 0 = .ok (.iconst (-1), 1) := by decide +kernel
theorem dX12_leadingNow_1 : decode cX12_leadingNow 1 = .ok (.istore_n 1, 1) := by decide +kernel
theorem dX12_leadingNow_2 : decode cX12_leadingNow 2 = .ok (.iconst 0, 1) := by decide +kernel
theorem dX12_leadingNow_3 : decode cX12_leadingNow 3 = .ok (.istore_n 2, 1) := by decide +kernel
theorem dX12_leadingNow_4 : decode cX12_leadingNow 4 = .ok (.iconst 0, 1) := by decide +kernel
theorem dX12_leadingNow_5 : decode cX12_leadingNow 5 = .ok (.istore_n 3, 1) := by decide +kernel
theorem dX12_leadingNow_6 : decode cX12_leadingNow 6 = .ok (.iload_n 3, 1) := by decide +kernel
theorem dX12_leadingNow_7 : decode cX12_leadingNow 7 = .ok (.aload_n 0, 1) := by decide +kernel
theorem dX12_leadingNow_8 : decode cX12_leadingNow 8 = .ok (.getfield 41, 3) := by decide +kernel
theorem dX12_leadingNow_11 : decode cX12_leadingNow 11 = .ok (.getfield 253, 3) := by decide +kernel
theorem dX12_leadingNow_14 : decode cX12_leadingNow 14 = .ok (.if_icmp .ge 47, 3) := by decide +kernel
theorem dX12_leadingNow_17 : decode cX12_leadingNow 17 = .ok (.aload_n 0, 1) := by decide +kernel
theorem dX12_leadingNow_18 : decode cX12_leadingNow 18 = .ok (.iload_n 3, 1) := by decide +kernel
theorem dX12_leadingNow_19 : decode cX12_leadingNow 19 = .ok (.invokevirtual 318, 3) := by decide +kernel
theorem dX12_leadingNow_22 : decode cX12_leadingNow 22 = .ok (.iload_n 3, 1) := by decide +kernel
theorem dX12_leadingNow_23 : decode cX12_leadingNow 23 = .ok (.if_icmp .eq 6, 3) := by decide +kernel
theorem dX12_leadingNow_26 : decode cX12_leadingNow 26 = .ok (.goto 29, 3) := by decide +kernel
theorem dX12_leadingNow_29 : decode cX12_leadingNow 29 = .ok (.aload_n 0, 1) := by decide +kernel
theorem dX12_leadingNow_30 : decode cX12_leadingNow 30 = .ok (.iload_n 3, 1) := by decide +kernel
theorem dX12_leadingNow_31 : decode cX12_leadingNow 31 = .ok (.invokevirtual 345, 3) := by decide +kernel
theorem dX12_leadingNow_34 : decode cX12_leadingNow 34 = .ok (.istore 4, 2) := by decide +kernel
theorem dX12_leadingNow_36 : decode cX12_leadingNow 36 = .ok (.iload_n 1, 1) := by decide +kernel
theorem dX12_leadingNow_37 : decode cX12_leadingNow 37 = .ok (.iconst (-1), 1) := by decide +kernel
theorem dX12_leadingNow_38 : decode cX12_leadingNow 38 = .ok (.if_icmp .eq 12, 3) := by decide +kernel
theorem dX12_leadingNow_41 : decode cX12_leadingNow 41 = .ok (.iload 4, 2) := by decide +kernel
theorem dX12_leadingNow_43 : decode cX12_leadingNow 43 = .ok (.iload_n 2, 1) := by decide +kernel
theorem dX12_leadingNow_44 : decode cX12_leadingNow 44 = .ok (.if_icmp .gt 6, 3) := by decide +kernel
theorem dX12_leadingNow_47 : decode cX12_leadingNow 47 = .ok (.goto 8, 3) := by decide +kernel
theorem dX12_leadingNow_50 : decode cX12_leadingNow 50 = .ok (.iload_n 3, 1) := by decide +kernel
theorem dX12_leadingNow_51 : decode cX12_leadingNow 51 = .ok (.istore_n 1, 1) := by decide +kernel
theorem dX12_leadingNow_52 : decode cX12_leadingNow 52 = .ok (.iload 4, 2) := by decide +kernel
theorem dX12_leadingNow_54 : decode cX12_leadingNow 54 = .ok (.istore_n 2, 1) := by decide +kernel
theorem dX12_leadingNow_55 : decode cX12_leadingNow 55 = .ok (.iinc 3 1, 3) := by decide +kernel
theorem dX12_leadingNow_58 : decode cX12_leadingNow 58 = .ok (.goto (-52), 3) := by decide +kernel
theorem dX12_leadingNow_61 : decode cX12_leadingNow 61 = .ok (.iload_n 1, 1) := by decide +kernel
theorem dX12_leadingNow_62 : decode cX12_leadingNow 62 = .ok (.ireturn, 1) := by decide +kernel
section T
variable {G : GT} {d : Nat} {S : List Value} {h : AH} {P : OC → AH → Prop} {x0 x1 x2 x3 x4 x5 x6 x7 x8 x9 x10 x11 x12 x13 x14 x15 : Option Value}
theorem tX12_leadingNow_0 (r : RQ G mX12_leadingNow d 1 [x0, x1, x2, x3, x4] (.int (-1) :: S) (h) P) : RQ G mX12_leadingNow d 0 [x0, x1, x2, x3, x4] (S) h P := q_iconst (M := mX12_leadingNow) (pc := 0) dX12_leadingNow_0 (by decide) r
theorem tX12_leadingNow_1 {v : Int32} (ho : ok1 x0 = true := by rfl) (r : RQ G mX12_leadingNow d 2 [x0, some (.int v), x2, x3, x4] (S) (h) P) : RQ G mX12_leadingNow d 1 [x0, x1, x2, x3, x4] (.int v :: S) h P := q_istore_n (M := mX12_leadingNow) (pc := 1) dX12_leadingNow_1 rfl (Nat.le_of_ble_eq_true rfl) ho r
theorem tX12_leadingNow_2 (r : RQ G mX12_leadingNow d 3 [x0, x1, x2, x3, x4] (.int (nI 0) :: S) (h) P) : RQ G mX12_leadingNow d 2 [x0, x1, x2, x3, x4] (S) h P := q_iconst (M := mX12_leadingNow) (pc := 2) dX12_leadingNow_2 (by decide) r
theorem tX12_leadingNow_3 {v : Int32} (ho : ok1 x1 = true := by rfl) (r : RQ G mX12_leadingNow d 4 [x0, x1, some (.int v), x3, x4] (S) (h) P) : RQ G mX12_leadingNow d 3 [x0, x1, x2, x3, x4] (.int v :: S) h P := q_istore_n (M := mX12_leadingNow) (pc := 3) dX12_leadingNow_3 rfl (Nat.le_of_ble_eq_true rfl) ho r
theorem tX12_leadingNow_4 (r : RQ G mX12_leadingNow d 5 [x0, x1, x2, x3, x4] (.int (nI 0) :: S) (h) P) : RQ G mX12_leadingNow d 4 [x0, x1, x2, x3, x4] (S) h P := q_iconst (M := mX12_leadingNow) (pc := 4) dX12_leadingNow_4 (by decide) r
theorem tX12_leadingNow_5 {v : Int32} (ho : ok1 x2 = true := by rfl) (r : RQ G mX12_leadingNow d 6 [x0, x1, x2, some (.int v), x4] (S) (h) P) : RQ G mX12_leadingNow d 5 [x0, x1, x2, x3, x4] (.int v :: S) h P := q_istore_n (M := mX12_leadingNow) (pc := 5) dX12_leadingNow_5 rfl (Nat.le_of_ble_eq_true rfl) ho r
theorem tX12_leadingNow_6 {v : Int32} (r : RQ G mX12_leadingNow d 7 [x0, x1, x2, some (.int v), x4] (.int v :: S) (h) P) : RQ G mX12_leadingNow d 6 [x0, x1, x2, some (.int v), x4] (S) h P := q_iload_n (M := mX12_leadingNow) (pc := 6) dX12_leadingNow_6 rfl rfl r
theorem tX12_leadingNow_7 {k : Nat} (r : RQ G mX12_leadingNow d 8 [some (.ref k), x1, x2, x3, x4] (.ref k :: S) (h) P) : RQ G mX12_leadingNow d 7 [some (.ref k), x1, x2, x3, x4] (S) h P := q_aload_n (M := mX12_leadingNow) (pc := 7) (r0 := some k) dX12_leadingNow_7 rfl rfl r
theorem tX12_leadingNow_8 {i : Nat} {vs : List Value} {v : Value} (ha : At h i (.inr (10, vs))) (hv : vs[17]? = some v) (r : RQ G mX12_leadingNow d 11 [x0, x1, x2, x3, x4] (v :: S) (h) P) : RQ G mX12_leadingNow d 8 [x0, x1, x2, x3, x4] (.ref i :: S) h P := q_get (M := mX12_leadingNow) (pc := 8) (kf := 17) dX12_leadingNow_8 (show CL[10]? = some (RX12, TX12, 25) from rfl) inA12 (by decide) rfl w1440 ha hv r
theorem tX12_leadingNow_11 {i : Nat} {vs : List Value} {v : Value} (ha : At h i (.inr (9, vs))) (hv : vs[0]? = some v) (r : RQ G mX12_leadingNow d 14 [x0, x1, x2, x3, x4] (v :: S) (h) P) : RQ G mX12_leadingNow d 11 [x0, x1, x2, x3, x4] (.ref i :: S) h P := q_getN (M := mX12_leadingNow) (pc := 11) (kf := 0) dX12_leadingNow_11 (show CL[9]? = some (RX11, TX11, 24) from rfl) inA11 (by decide) rfl v1320 ha hv r
theorem tX12_leadingNow_14 {x y : Int32} (kt : y ≤ x → RQ G mX12_leadingNow d 61 [x0, x1, x2, x3, x4] S h P) (kf : ¬ y ≤ x → RQ G mX12_leadingNow d 17 [x0, x1, x2, x3, x4] S h P) : RQ G mX12_leadingNow d 14 [x0, x1, x2, x3, x4] (.int y :: .int x :: S) h P := q_icmp_ge (M := mX12_leadingNow) (pc := 14) dX12_leadingNow_14 (by decide) kt kf
theorem tX12_leadingNow_17 {k : Nat} (r : RQ G mX12_leadingNow d 18 [some (.ref k), x1, x2, x3, x4] (.ref k :: S) (h) P) : RQ G mX12_leadingNow d 17 [some (.ref k), x1, x2, x3, x4] (S) h P := q_aload_n (M := mX12_leadingNow) (pc := 17) (r0 := some k) dX12_leadingNow_17 rfl rfl r
theorem tX12_leadingNow_18 {v : Int32} (r : RQ G mX12_leadingNow d 19 [x0, x1, x2, some (.int v), x4] (.int v :: S) (h) P) : RQ G mX12_leadingNow d 18 [x0, x1, x2, some (.int v), x4] (S) h P := q_iload_n (M := mX12_leadingNow) (pc := 18) dX12_leadingNow_18 rfl rfl r
theorem tX12_leadingNow_19 {b d2 : Nat} {vs : List Value} {a0 : Int32} {Q : Int32 → AH → Prop} (hd : d2 + 1 ≤ d) (ha : At h b (.inr (10, vs))) (call : RQ G mX12_leader d2 0 [some (.ref b), some (.int a0), none] [] h (Ri Q)) (k : ∀ x h1, Q x h1 → RQ G mX12_leadingNow d 22 [x0, x1, x2, x3, x4] (.int x :: S) h1 P) (hst : (S.map fun v => v.category).sum ≤ 8 := by exact Nat.le_of_ble_eq_true rfl)  : RQ G mX12_leadingNow d 19 [x0, x1, x2, x3, x4] (.int a0 :: .ref b :: S) h P := q_callV (M := mX12_leadingNow) (pc := 19) (M2 := mX12_leader) (As := [.int a0]) (n := 1) dX12_leadingNow_19 rfl ⟨by decide, by decide, by decide, rfl⟩ rfl w1744 w1746 w80 w120 w1747 (show CL[10]? = some (RX12, TX12, 25) from rfl) hd (by decide) (Nat.le_of_ble_eq_true rfl) rfl ha hst call (callk_i k)
theorem tX12_leadingNow_22 {v : Int32} (r : RQ G mX12_leadingNow d 23 [x0, x1, x2, some (.int v), x4] (.int v :: S) (h) P) : RQ G mX12_leadingNow d 22 [x0, x1, x2, some (.int v), x4] (S) h P := q_iload_n (M := mX12_leadingNow) (pc := 22) dX12_leadingNow_22 rfl rfl r
theorem tX12_leadingNow_23 {x y : Int32} (kt : x = y → RQ G mX12_leadingNow d 29 [x0, x1, x2, x3, x4] S h P) (kf : ¬ x = y → RQ G mX12_leadingNow d 26 [x0, x1, x2, x3, x4] S h P) : RQ G mX12_leadingNow d 23 [x0, x1, x2, x3, x4] (.int y :: .int x :: S) h P := q_icmp_eq (M := mX12_leadingNow) (pc := 23) dX12_leadingNow_23 (by decide) kt kf
theorem tX12_leadingNow_26 (r : RQ G mX12_leadingNow d 55 [x0, x1, x2, x3, x4] S h P) : RQ G mX12_leadingNow d 26 [x0, x1, x2, x3, x4] (S) h P := q_goto (M := mX12_leadingNow) (pc := 26) dX12_leadingNow_26 (by decide) r
theorem tX12_leadingNow_29 {k : Nat} (r : RQ G mX12_leadingNow d 30 [some (.ref k), x1, x2, x3, x4] (.ref k :: S) (h) P) : RQ G mX12_leadingNow d 29 [some (.ref k), x1, x2, x3, x4] (S) h P := q_aload_n (M := mX12_leadingNow) (pc := 29) (r0 := some k) dX12_leadingNow_29 rfl rfl r
theorem tX12_leadingNow_30 {v : Int32} (r : RQ G mX12_leadingNow d 31 [x0, x1, x2, some (.int v), x4] (.int v :: S) (h) P) : RQ G mX12_leadingNow d 30 [x0, x1, x2, some (.int v), x4] (S) h P := q_iload_n (M := mX12_leadingNow) (pc := 30) dX12_leadingNow_30 rfl rfl r
theorem tX12_leadingNow_31 {b d2 : Nat} {vs : List Value} {a0 : Int32} {Q : Int32 → AH → Prop} (hd : d2 + 1 ≤ d) (ha : At h b (.inr (10, vs))) (call : RQ G mX12_seatsInAllOf d2 0 [some (.ref b), some (.int a0), none, none, none] [] h (Ri Q)) (k : ∀ x h1, Q x h1 → RQ G mX12_leadingNow d 34 [x0, x1, x2, x3, x4] (.int x :: S) h1 P) (hst : (S.map fun v => v.category).sum ≤ 8 := by exact Nat.le_of_ble_eq_true rfl)  : RQ G mX12_leadingNow d 31 [x0, x1, x2, x3, x4] (.int a0 :: .ref b :: S) h P := q_callV (M := mX12_leadingNow) (pc := 31) (M2 := mX12_seatsInAllOf) (As := [.int a0]) (n := 1) dX12_leadingNow_31 rfl ⟨by decide, by decide, by decide, rfl⟩ rfl w1809 w1811 w89 w120 w1812 (show CL[10]? = some (RX12, TX12, 25) from rfl) hd (by decide) (Nat.le_of_ble_eq_true rfl) rfl ha hst call (callk_i k)
theorem tX12_leadingNow_34 {v : Int32} (ho : ok1 x3 = true := by rfl) (r : RQ G mX12_leadingNow d 36 [x0, x1, x2, x3, some (.int v)] (S) (h) P) : RQ G mX12_leadingNow d 34 [x0, x1, x2, x3, x4] (.int v :: S) h P := q_istore (M := mX12_leadingNow) (pc := 34) dX12_leadingNow_34 (Nat.le_of_ble_eq_true rfl) ho r
theorem tX12_leadingNow_36 {v : Int32} (r : RQ G mX12_leadingNow d 37 [x0, some (.int v), x2, x3, x4] (.int v :: S) (h) P) : RQ G mX12_leadingNow d 36 [x0, some (.int v), x2, x3, x4] (S) h P := q_iload_n (M := mX12_leadingNow) (pc := 36) dX12_leadingNow_36 rfl rfl r
theorem tX12_leadingNow_37 (r : RQ G mX12_leadingNow d 38 [x0, x1, x2, x3, x4] (.int (-1) :: S) (h) P) : RQ G mX12_leadingNow d 37 [x0, x1, x2, x3, x4] (S) h P := q_iconst (M := mX12_leadingNow) (pc := 37) dX12_leadingNow_37 (by decide) r
theorem tX12_leadingNow_38 {x y : Int32} (kt : x = y → RQ G mX12_leadingNow d 50 [x0, x1, x2, x3, x4] S h P) (kf : ¬ x = y → RQ G mX12_leadingNow d 41 [x0, x1, x2, x3, x4] S h P) : RQ G mX12_leadingNow d 38 [x0, x1, x2, x3, x4] (.int y :: .int x :: S) h P := q_icmp_eq (M := mX12_leadingNow) (pc := 38) dX12_leadingNow_38 (by decide) kt kf
theorem tX12_leadingNow_41 {v : Int32} (r : RQ G mX12_leadingNow d 43 [x0, x1, x2, x3, some (.int v)] (.int v :: S) (h) P) : RQ G mX12_leadingNow d 41 [x0, x1, x2, x3, some (.int v)] (S) h P := q_iload (M := mX12_leadingNow) (pc := 41) dX12_leadingNow_41 rfl r
theorem tX12_leadingNow_43 {v : Int32} (r : RQ G mX12_leadingNow d 44 [x0, x1, some (.int v), x3, x4] (.int v :: S) (h) P) : RQ G mX12_leadingNow d 43 [x0, x1, some (.int v), x3, x4] (S) h P := q_iload_n (M := mX12_leadingNow) (pc := 43) dX12_leadingNow_43 rfl rfl r
theorem tX12_leadingNow_44 {x y : Int32} (kt : y < x → RQ G mX12_leadingNow d 50 [x0, x1, x2, x3, x4] S h P) (kf : ¬ y < x → RQ G mX12_leadingNow d 47 [x0, x1, x2, x3, x4] S h P) : RQ G mX12_leadingNow d 44 [x0, x1, x2, x3, x4] (.int y :: .int x :: S) h P := q_icmp_gt (M := mX12_leadingNow) (pc := 44) dX12_leadingNow_44 (by decide) kt kf
theorem tX12_leadingNow_47 (r : RQ G mX12_leadingNow d 55 [x0, x1, x2, x3, x4] S h P) : RQ G mX12_leadingNow d 47 [x0, x1, x2, x3, x4] (S) h P := q_goto (M := mX12_leadingNow) (pc := 47) dX12_leadingNow_47 (by decide) r
theorem tX12_leadingNow_50 {v : Int32} (r : RQ G mX12_leadingNow d 51 [x0, x1, x2, some (.int v), x4] (.int v :: S) (h) P) : RQ G mX12_leadingNow d 50 [x0, x1, x2, some (.int v), x4] (S) h P := q_iload_n (M := mX12_leadingNow) (pc := 50) dX12_leadingNow_50 rfl rfl r
theorem tX12_leadingNow_51 {v : Int32} (ho : ok1 x0 = true := by rfl) (r : RQ G mX12_leadingNow d 52 [x0, some (.int v), x2, x3, x4] (S) (h) P) : RQ G mX12_leadingNow d 51 [x0, x1, x2, x3, x4] (.int v :: S) h P := q_istore_n (M := mX12_leadingNow) (pc := 51) dX12_leadingNow_51 rfl (Nat.le_of_ble_eq_true rfl) ho r
theorem tX12_leadingNow_52 {v : Int32} (r : RQ G mX12_leadingNow d 54 [x0, x1, x2, x3, some (.int v)] (.int v :: S) (h) P) : RQ G mX12_leadingNow d 52 [x0, x1, x2, x3, some (.int v)] (S) h P := q_iload (M := mX12_leadingNow) (pc := 52) dX12_leadingNow_52 rfl r
theorem tX12_leadingNow_54 {v : Int32} (ho : ok1 x1 = true := by rfl) (r : RQ G mX12_leadingNow d 55 [x0, x1, some (.int v), x3, x4] (S) (h) P) : RQ G mX12_leadingNow d 54 [x0, x1, x2, x3, x4] (.int v :: S) h P := q_istore_n (M := mX12_leadingNow) (pc := 54) dX12_leadingNow_54 rfl (Nat.le_of_ble_eq_true rfl) ho r
theorem tX12_leadingNow_55 {v : Int32} (ho : ok1 x2 = true := by rfl) (r : RQ G mX12_leadingNow d 58 [x0, x1, x2, some (.int (v + (nI 1))), x4] (S) (h) P) : RQ G mX12_leadingNow d 55 [x0, x1, x2, some (.int v), x4] (S) h P := q_iinc (M := mX12_leadingNow) (pc := 55) dX12_leadingNow_55 rfl (congrArg (v + ·) (show Int32.ofInt (1) = (nI 1) by decide)) (Nat.le_of_ble_eq_true rfl) ho r
theorem tX12_leadingNow_58 (r : RQ G mX12_leadingNow d 6 [x0, x1, x2, x3, x4] S h P) : RQ G mX12_leadingNow d 58 [x0, x1, x2, x3, x4] (S) h P := q_goto (M := mX12_leadingNow) (pc := 58) dX12_leadingNow_58 (by decide) r
theorem tX12_leadingNow_61 {v : Int32} (r : RQ G mX12_leadingNow d 62 [x0, some (.int v), x2, x3, x4] (.int v :: S) (h) P) : RQ G mX12_leadingNow d 61 [x0, some (.int v), x2, x3, x4] (S) h P := q_iload_n (M := mX12_leadingNow) (pc := 61) dX12_leadingNow_61 rfl rfl r
theorem tX12_leadingNow_62 {x : Int32} (hP : P (.inl (some (.int x))) h) : RQ G mX12_leadingNow d 62 [x0, x1, x2, x3, x4] ([.int x]) h P := q_ireturn (M := mX12_leadingNow) (pc := 62) (ty := .int) dX12_leadingNow_62 rfl rfl hP
end T
theorem dX12_shakeIt_0 : decode cX12_shakeIt 0 = .ok (.iconst 1, 1) := by decide +kernel
theorem dX12_shakeIt_1 : decode cX12_shakeIt 1 = .ok (.bipush 6, 2) := by decide +kernel
theorem dX12_shakeIt_3 : decode cX12_shakeIt 3 = .ok (.iload_n 1, 1) := by decide +kernel
theorem dX12_shakeIt_4 : decode cX12_shakeIt 4 = .ok (.imul, 1) := by decide +kernel
theorem dX12_shakeIt_5 : decode cX12_shakeIt 5 = .ok (.iadd, 1) := by decide +kernel
theorem dX12_shakeIt_6 : decode cX12_shakeIt 6 = .ok (.istore_n 2, 1) := by decide +kernel
theorem dX12_shakeIt_7 : decode cX12_shakeIt 7 = .ok (.iconst 0, 1) := by decide +kernel
theorem dX12_shakeIt_8 : decode cX12_shakeIt 8 = .ok (.istore_n 3, 1) := by decide +kernel
theorem dX12_shakeIt_9 : decode cX12_shakeIt 9 = .ok (.iload_n 3, 1) := by decide +kernel
theorem dX12_shakeIt_10 : decode cX12_shakeIt 10 = .ok (.aload_n 0, 1) := by decide +kernel
theorem dX12_shakeIt_11 : decode cX12_shakeIt 11 = .ok (.getfield 41, 3) := by decide +kernel
theorem dX12_shakeIt_14 : decode cX12_shakeIt 14 = .ok (.getfield 253, 3) := by decide +kernel
theorem dX12_shakeIt_17 : decode cX12_shakeIt 17 = .ok (.if_icmp .ge 26, 3) := by decide +kernel
theorem dX12_shakeIt_20 : decode cX12_shakeIt 20 = .ok (.aload_n 0, 1) := by decide +kernel
theorem dX12_shakeIt_21 : decode cX12_shakeIt 21 = .ok (.getfield 63, 3) := by decide +kernel
theorem dX12_shakeIt_24 : decode cX12_shakeIt 24 = .ok (.iload_n 3, 1) := by decide +kernel
theorem dX12_shakeIt_25 : decode cX12_shakeIt 25 = .ok (.aload_n 0, 1) := by decide +kernel
theorem dX12_shakeIt_26 : decode cX12_shakeIt 26 = .ok (.getfield 51, 3) := by decide +kernel
theorem dX12_shakeIt_29 : decode cX12_shakeIt 29 = .ok (.iload_n 2, 1) := by decide +kernel
theorem dX12_shakeIt_30 : decode cX12_shakeIt 30 = .ok (.iload_n 3, 1) := by decide +kernel
theorem dX12_shakeIt_31 : decode cX12_shakeIt 31 = .ok (.iadd, 1) := by decide +kernel
theorem dX12_shakeIt_32 : decode cX12_shakeIt 32 = .ok (.iaload, 1) := by decide +kernel
theorem dX12_shakeIt_33 : decode cX12_shakeIt 33 = .ok (.bipush 10, 2) := by decide +kernel
theorem dX12_shakeIt_35 : decode cX12_shakeIt 35 = .ok (.idiv, 1) := by decide +kernel
theorem dX12_shakeIt_36 : decode cX12_shakeIt 36 = .ok (.iastore, 1) := by decide +kernel
theorem dX12_shakeIt_37 : decode cX12_shakeIt 37 = .ok (.iinc 3 1, 3) := by decide +kernel
theorem dX12_shakeIt_40 : decode cX12_shakeIt 40 = .ok (.goto (-31), 3) := by decide +kernel
theorem dX12_shakeIt_43 : decode cX12_shakeIt 43 = .ok (.iconst 0, 1) := by decide +kernel
theorem dX12_shakeIt_44 : decode cX12_shakeIt 44 = .ok (.istore_n 3, 1) := by decide +kernel
theorem dX12_shakeIt_45 : decode cX12_shakeIt 45 = .ok (.iload_n 3, 1) := by decide +kernel
theorem dX12_shakeIt_46 : decode cX12_shakeIt 46 = .ok (.aload_n 0, 1) := by decide +kernel
theorem dX12_shakeIt_47 : decode cX12_shakeIt 47 = .ok (.getfield 41, 3) := by decide +kernel
theorem dX12_shakeIt_50 : decode cX12_shakeIt 50 = .ok (.getfield 253, 3) := by decide +kernel
theorem dX12_shakeIt_53 : decode cX12_shakeIt 53 = .ok (.if_icmp .ge 51, 3) := by decide +kernel
theorem dX12_shakeIt_56 : decode cX12_shakeIt 56 = .ok (.aload_n 0, 1) := by decide +kernel
theorem dX12_shakeIt_57 : decode cX12_shakeIt 57 = .ok (.getfield 51, 3) := by decide +kernel
theorem dX12_shakeIt_60 : decode cX12_shakeIt 60 = .ok (.iload_n 2, 1) := by decide +kernel
theorem dX12_shakeIt_61 : decode cX12_shakeIt 61 = .ok (.iload_n 3, 1) := by decide +kernel
theorem dX12_shakeIt_62 : decode cX12_shakeIt 62 = .ok (.iadd, 1) := by decide +kernel
theorem dX12_shakeIt_63 : decode cX12_shakeIt 63 = .ok (.dup2, 1) := by decide +kernel
theorem dX12_shakeIt_64 : decode cX12_shakeIt 64 = .ok (.iaload, 1) := by decide +kernel
theorem dX12_shakeIt_65 : decode cX12_shakeIt 65 = .ok (.aload_n 0, 1) := by decide +kernel
theorem dX12_shakeIt_66 : decode cX12_shakeIt 66 = .ok (.getfield 63, 3) := by decide +kernel
theorem dX12_shakeIt_69 : decode cX12_shakeIt 69 = .ok (.iload_n 3, 1) := by decide +kernel
theorem dX12_shakeIt_70 : decode cX12_shakeIt 70 = .ok (.aload_n 0, 1) := by decide +kernel
theorem dX12_shakeIt_71 : decode cX12_shakeIt 71 = .ok (.getfield 41, 3) := by decide +kernel
theorem dX12_shakeIt_74 : decode cX12_shakeIt 74 = .ok (.getfield 253, 3) := by decide +kernel
theorem dX12_shakeIt_77 : decode cX12_shakeIt 77 = .ok (.iadd, 1) := by decide +kernel
theorem dX12_shakeIt_78 : decode cX12_shakeIt 78 = .ok (.iconst 1, 1) := by decide +kernel
theorem dX12_shakeIt_79 : decode cX12_shakeIt 79 = .ok (.isub, 1) := by decide +kernel
theorem dX12_shakeIt_80 : decode cX12_shakeIt 80 = .ok (.aload_n 0, 1) := by decide +kernel
theorem dX12_shakeIt_81 : decode cX12_shakeIt 81 = .ok (.getfield 41, 3) := by decide +kernel
theorem dX12_shakeIt_84 : decode cX12_shakeIt 84 = .ok (.getfield 253, 3) := by decide +kernel
theorem dX12_shakeIt_87 : decode cX12_shakeIt 87 = .ok (.irem, 1) := by decide +kernel
theorem dX12_shakeIt_88 : decode cX12_shakeIt 88 = .ok (.iaload, 1) := by decide +kernel
theorem dX12_shakeIt_89 : decode cX12_shakeIt 89 = .ok (.aload_n 0, 1) := by decide +kernel
theorem dX12_shakeIt_90 : decode cX12_shakeIt 90 = .ok (.getfield 63, 3) := by decide +kernel
theorem dX12_shakeIt_93 : decode cX12_shakeIt 93 = .ok (.iload_n 3, 1) := by decide +kernel
theorem dX12_shakeIt_94 : decode cX12_shakeIt 94 = .ok (.iaload, 1) := by decide +kernel
theorem dX12_shakeIt_95 : decode cX12_shakeIt 95 = .ok (.isub, 1) := by decide +kernel
theorem dX12_shakeIt_96 : decode cX12_shakeIt 96 = .ok (.iadd, 1) := by decide +kernel
theorem dX12_shakeIt_97 : decode cX12_shakeIt 97 = .ok (.iastore, 1) := by decide +kernel
theorem dX12_shakeIt_98 : decode cX12_shakeIt 98 = .ok (.iinc 3 1, 3) := by decide +kernel
theorem dX12_shakeIt_101 : decode cX12_shakeIt 101 = .ok (.goto (-56), 3) := by decide +kernel
theorem dX12_shakeIt_104 : decode cX12_shakeIt 104 = .ok (.return_, 1) := by decide +kernel
section T
variable {G : GT} {d : Nat} {S : List Value} {h : AH} {P : OC → AH → Prop} {x0 x1 x2 x3 x4 x5 x6 x7 x8 x9 x10 x11 x12 x13 x14 x15 : Option Value}
theorem tX12_shakeIt_0 (r : RQ G mX12_shakeIt d 1 [x0, x1, x2, x3] (.int (nI 1) :: S) (h) P) : RQ G mX12_shakeIt d 0 [x0, x1, x2, x3] (S) h P := q_iconst (M := mX12_shakeIt) (pc := 0) dX12_shakeIt_0 (by decide) r
theorem tX12_shakeIt_1 (r : RQ G mX12_shakeIt d 3 [x0, x1, x2, x3] (.int (nI 6) :: S) (h) P) : RQ G mX12_shakeIt d 1 [x0, x1, x2, x3] (S) h P := q_bipush (M := mX12_shakeIt) (pc := 1) dX12_shakeIt_1 (by decide) r
theorem tX12_shakeIt_3 {v : Int32} (r : RQ G mX12_shakeIt d 4 [x0, some (.int v), x2, x3] (.int v :: S) (h) P) : RQ G mX12_shakeIt d 3 [x0, some (.int v), x2, x3] (S) h P := q_iload_n (M := mX12_shakeIt) (pc := 3) dX12_shakeIt_3 rfl rfl r
theorem tX12_shakeIt_4 {x y : Int32} (r : RQ G mX12_shakeIt d 5 [x0, x1, x2, x3] (.int (x * y) :: S) (h) P) : RQ G mX12_shakeIt d 4 [x0, x1, x2, x3] (.int y :: .int x :: S) h P := q_imul (M := mX12_shakeIt) (pc := 4) dX12_shakeIt_4 r
theorem tX12_shakeIt_5 {x y : Int32} (r : RQ G mX12_shakeIt d 6 [x0, x1, x2, x3] (.int (x + y) :: S) (h) P) : RQ G mX12_shakeIt d 5 [x0, x1, x2, x3] (.int y :: .int x :: S) h P := q_iadd (M := mX12_shakeIt) (pc := 5) dX12_shakeIt_5 r
theorem tX12_shakeIt_6 {v : Int32} (ho : ok1 x1 = true := by rfl) (r : RQ G mX12_shakeIt d 7 [x0, x1, some (.int v), x3] (S) (h) P) : RQ G mX12_shakeIt d 6 [x0, x1, x2, x3] (.int v :: S) h P := q_istore_n (M := mX12_shakeIt) (pc := 6) dX12_shakeIt_6 rfl (Nat.le_of_ble_eq_true rfl) ho r
theorem tX12_shakeIt_7 (r : RQ G mX12_shakeIt d 8 [x0, x1, x2, x3] (.int (nI 0) :: S) (h) P) : RQ G mX12_shakeIt d 7 [x0, x1, x2, x3] (S) h P := q_iconst (M := mX12_shakeIt) (pc := 7) dX12_shakeIt_7 (by decide) r
theorem tX12_shakeIt_8 {v : Int32} (ho : ok1 x2 = true := by rfl) (r : RQ G mX12_shakeIt d 9 [x0, x1, x2, some (.int v)] (S) (h) P) : RQ G mX12_shakeIt d 8 [x0, x1, x2, x3] (.int v :: S) h P := q_istore_n (M := mX12_shakeIt) (pc := 8) dX12_shakeIt_8 rfl (Nat.le_of_ble_eq_true rfl) ho r
theorem tX12_shakeIt_9 {v : Int32} (r : RQ G mX12_shakeIt d 10 [x0, x1, x2, some (.int v)] (.int v :: S) (h) P) : RQ G mX12_shakeIt d 9 [x0, x1, x2, some (.int v)] (S) h P := q_iload_n (M := mX12_shakeIt) (pc := 9) dX12_shakeIt_9 rfl rfl r
theorem tX12_shakeIt_10 {k : Nat} (r : RQ G mX12_shakeIt d 11 [some (.ref k), x1, x2, x3] (.ref k :: S) (h) P) : RQ G mX12_shakeIt d 10 [some (.ref k), x1, x2, x3] (S) h P := q_aload_n (M := mX12_shakeIt) (pc := 10) (r0 := some k) dX12_shakeIt_10 rfl rfl r
theorem tX12_shakeIt_11 {i : Nat} {vs : List Value} {v : Value} (ha : At h i (.inr (10, vs))) (hv : vs[17]? = some v) (r : RQ G mX12_shakeIt d 14 [x0, x1, x2, x3] (v :: S) (h) P) : RQ G mX12_shakeIt d 11 [x0, x1, x2, x3] (.ref i :: S) h P := q_get (M := mX12_shakeIt) (pc := 11) (kf := 17) dX12_shakeIt_11 (show CL[10]? = some (RX12, TX12, 25) from rfl) inA12 (by decide) rfl w1440 ha hv r
theorem tX12_shakeIt_14 {i : Nat} {vs : List Value} {v : Value} (ha : At h i (.inr (9, vs))) (hv : vs[0]? = some v) (r : RQ G mX12_shakeIt d 17 [x0, x1, x2, x3] (v :: S) (h) P) : RQ G mX12_shakeIt d 14 [x0, x1, x2, x3] (.ref i :: S) h P := q_getN (M := mX12_shakeIt) (pc := 14) (kf := 0) dX12_shakeIt_14 (show CL[9]? = some (RX11, TX11, 24) from rfl) inA11 (by decide) rfl v1320 ha hv r
theorem tX12_shakeIt_17 {x y : Int32} (kt : y ≤ x → RQ G mX12_shakeIt d 43 [x0, x1, x2, x3] S h P) (kf : ¬ y ≤ x → RQ G mX12_shakeIt d 20 [x0, x1, x2, x3] S h P) : RQ G mX12_shakeIt d 17 [x0, x1, x2, x3] (.int y :: .int x :: S) h P := q_icmp_ge (M := mX12_shakeIt) (pc := 17) dX12_shakeIt_17 (by decide) kt kf
theorem tX12_shakeIt_20 {k : Nat} (r : RQ G mX12_shakeIt d 21 [some (.ref k), x1, x2, x3] (.ref k :: S) (h) P) : RQ G mX12_shakeIt d 20 [some (.ref k), x1, x2, x3] (S) h P := q_aload_n (M := mX12_shakeIt) (pc := 20) (r0 := some k) dX12_shakeIt_20 rfl rfl r
theorem tX12_shakeIt_21 {i : Nat} {vs : List Value} {v : Value} (ha : At h i (.inr (10, vs))) (hv : vs[24]? = some v) (r : RQ G mX12_shakeIt d 24 [x0, x1, x2, x3] (v :: S) (h) P) : RQ G mX12_shakeIt d 21 [x0, x1, x2, x3] (.ref i :: S) h P := q_get (M := mX12_shakeIt) (pc := 21) (kf := 24) dX12_shakeIt_21 (show CL[10]? = some (RX12, TX12, 25) from rfl) inA12 (by decide) rfl w1447 ha hv r
theorem tX12_shakeIt_24 {v : Int32} (r : RQ G mX12_shakeIt d 25 [x0, x1, x2, some (.int v)] (.int v :: S) (h) P) : RQ G mX12_shakeIt d 24 [x0, x1, x2, some (.int v)] (S) h P := q_iload_n (M := mX12_shakeIt) (pc := 24) dX12_shakeIt_24 rfl rfl r
theorem tX12_shakeIt_25 {k : Nat} (r : RQ G mX12_shakeIt d 26 [some (.ref k), x1, x2, x3] (.ref k :: S) (h) P) : RQ G mX12_shakeIt d 25 [some (.ref k), x1, x2, x3] (S) h P := q_aload_n (M := mX12_shakeIt) (pc := 25) (r0 := some k) dX12_shakeIt_25 rfl rfl r
theorem tX12_shakeIt_26 {i : Nat} {vs : List Value} {v : Value} (ha : At h i (.inr (10, vs))) (hv : vs[20]? = some v) (r : RQ G mX12_shakeIt d 29 [x0, x1, x2, x3] (v :: S) (h) P) : RQ G mX12_shakeIt d 26 [x0, x1, x2, x3] (.ref i :: S) h P := q_get (M := mX12_shakeIt) (pc := 26) (kf := 20) dX12_shakeIt_26 (show CL[10]? = some (RX12, TX12, 25) from rfl) inA12 (by decide) rfl w1443 ha hv r
theorem tX12_shakeIt_29 {v : Int32} (r : RQ G mX12_shakeIt d 30 [x0, x1, some (.int v), x3] (.int v :: S) (h) P) : RQ G mX12_shakeIt d 29 [x0, x1, some (.int v), x3] (S) h P := q_iload_n (M := mX12_shakeIt) (pc := 29) dX12_shakeIt_29 rfl rfl r
theorem tX12_shakeIt_30 {v : Int32} (r : RQ G mX12_shakeIt d 31 [x0, x1, x2, some (.int v)] (.int v :: S) (h) P) : RQ G mX12_shakeIt d 30 [x0, x1, x2, some (.int v)] (S) h P := q_iload_n (M := mX12_shakeIt) (pc := 30) dX12_shakeIt_30 rfl rfl r
theorem tX12_shakeIt_31 {x y : Int32} (r : RQ G mX12_shakeIt d 32 [x0, x1, x2, x3] (.int (x + y) :: S) (h) P) : RQ G mX12_shakeIt d 31 [x0, x1, x2, x3] (.int y :: .int x :: S) h P := q_iadd (M := mX12_shakeIt) (pc := 31) dX12_shakeIt_31 r
theorem tX12_shakeIt_32 {a n j : Nat} {x : Int32} {f : Nat → Int32} (ha : At h a (.inl (0, n, .inl f))) (hx : x = nI j) (hj : j < n) (hn : n < 2147483648) (r : RQ G mX12_shakeIt d 33 [x0, x1, x2, x3] (.int (f j) :: S) (h) P) : RQ G mX12_shakeIt d 32 [x0, x1, x2, x3] (.int x :: .ref a :: S) h P := q_iald (M := mX12_shakeIt) (pc := 32) dX12_shakeIt_32 ha hx hj hn r
theorem tX12_shakeIt_33 (r : RQ G mX12_shakeIt d 35 [x0, x1, x2, x3] (.int (nI 10) :: S) (h) P) : RQ G mX12_shakeIt d 33 [x0, x1, x2, x3] (S) h P := q_bipush (M := mX12_shakeIt) (pc := 33) dX12_shakeIt_33 (by decide) r
theorem tX12_shakeIt_35 {x y : Int32} (hne : ¬ y = 0) (r : RQ G mX12_shakeIt d 36 [x0, x1, x2, x3] (.int (x / y) :: S) (h) P) : RQ G mX12_shakeIt d 35 [x0, x1, x2, x3] (.int y :: .int x :: S) h P := q_idiv (M := mX12_shakeIt) (pc := 35) dX12_shakeIt_35 hne r
theorem tX12_shakeIt_36 {a n j : Nat} {x : Int32} {v : Int32} {f : Nat → Int32} (ha : At h a (.inl (0, n, .inl f))) (hx : x = nI j) (hj : j < n) (hn : n < 2147483648) (r : RQ G mX12_shakeIt d 37 [x0, x1, x2, x3] (S) (hset h a (.inl (0, n, .inl (upd f j v)))) P) : RQ G mX12_shakeIt d 36 [x0, x1, x2, x3] (.int v :: .int x :: .ref a :: S) h P := q_iast (M := mX12_shakeIt) (pc := 36) dX12_shakeIt_36 ha hx hj hn r
theorem tX12_shakeIt_37 {v : Int32} (ho : ok1 x2 = true := by rfl) (r : RQ G mX12_shakeIt d 40 [x0, x1, x2, some (.int (v + (nI 1)))] (S) (h) P) : RQ G mX12_shakeIt d 37 [x0, x1, x2, some (.int v)] (S) h P := q_iinc (M := mX12_shakeIt) (pc := 37) dX12_shakeIt_37 rfl (congrArg (v + ·) (show Int32.ofInt (1) = (nI 1) by decide)) (Nat.le_of_ble_eq_true rfl) ho r
theorem tX12_shakeIt_40 (r : RQ G mX12_shakeIt d 9 [x0, x1, x2, x3] S h P) : RQ G mX12_shakeIt d 40 [x0, x1, x2, x3] (S) h P := q_goto (M := mX12_shakeIt) (pc := 40) dX12_shakeIt_40 (by decide) r
theorem tX12_shakeIt_43 (r : RQ G mX12_shakeIt d 44 [x0, x1, x2, x3] (.int (nI 0) :: S) (h) P) : RQ G mX12_shakeIt d 43 [x0, x1, x2, x3] (S) h P := q_iconst (M := mX12_shakeIt) (pc := 43) dX12_shakeIt_43 (by decide) r
theorem tX12_shakeIt_44 {v : Int32} (ho : ok1 x2 = true := by rfl) (r : RQ G mX12_shakeIt d 45 [x0, x1, x2, some (.int v)] (S) (h) P) : RQ G mX12_shakeIt d 44 [x0, x1, x2, x3] (.int v :: S) h P := q_istore_n (M := mX12_shakeIt) (pc := 44) dX12_shakeIt_44 rfl (Nat.le_of_ble_eq_true rfl) ho r
theorem tX12_shakeIt_45 {v : Int32} (r : RQ G mX12_shakeIt d 46 [x0, x1, x2, some (.int v)] (.int v :: S) (h) P) : RQ G mX12_shakeIt d 45 [x0, x1, x2, some (.int v)] (S) h P := q_iload_n (M := mX12_shakeIt) (pc := 45) dX12_shakeIt_45 rfl rfl r
theorem tX12_shakeIt_46 {k : Nat} (r : RQ G mX12_shakeIt d 47 [some (.ref k), x1, x2, x3] (.ref k :: S) (h) P) : RQ G mX12_shakeIt d 46 [some (.ref k), x1, x2, x3] (S) h P := q_aload_n (M := mX12_shakeIt) (pc := 46) (r0 := some k) dX12_shakeIt_46 rfl rfl r
theorem tX12_shakeIt_47 {i : Nat} {vs : List Value} {v : Value} (ha : At h i (.inr (10, vs))) (hv : vs[17]? = some v) (r : RQ G mX12_shakeIt d 50 [x0, x1, x2, x3] (v :: S) (h) P) : RQ G mX12_shakeIt d 47 [x0, x1, x2, x3] (.ref i :: S) h P := q_get (M := mX12_shakeIt) (pc := 47) (kf := 17) dX12_shakeIt_47 (show CL[10]? = some (RX12, TX12, 25) from rfl) inA12 (by decide) rfl w1440 ha hv r
theorem tX12_shakeIt_50 {i : Nat} {vs : List Value} {v : Value} (ha : At h i (.inr (9, vs))) (hv : vs[0]? = some v) (r : RQ G mX12_shakeIt d 53 [x0, x1, x2, x3] (v :: S) (h) P) : RQ G mX12_shakeIt d 50 [x0, x1, x2, x3] (.ref i :: S) h P := q_getN (M := mX12_shakeIt) (pc := 50) (kf := 0) dX12_shakeIt_50 (show CL[9]? = some (RX11, TX11, 24) from rfl) inA11 (by decide) rfl v1320 ha hv r
theorem tX12_shakeIt_53 {x y : Int32} (kt : y ≤ x → RQ G mX12_shakeIt d 104 [x0, x1, x2, x3] S h P) (kf : ¬ y ≤ x → RQ G mX12_shakeIt d 56 [x0, x1, x2, x3] S h P) : RQ G mX12_shakeIt d 53 [x0, x1, x2, x3] (.int y :: .int x :: S) h P := q_icmp_ge (M := mX12_shakeIt) (pc := 53) dX12_shakeIt_53 (by decide) kt kf
theorem tX12_shakeIt_56 {k : Nat} (r : RQ G mX12_shakeIt d 57 [some (.ref k), x1, x2, x3] (.ref k :: S) (h) P) : RQ G mX12_shakeIt d 56 [some (.ref k), x1, x2, x3] (S) h P := q_aload_n (M := mX12_shakeIt) (pc := 56) (r0 := some k) dX12_shakeIt_56 rfl rfl r
theorem tX12_shakeIt_57 {i : Nat} {vs : List Value} {v : Value} (ha : At h i (.inr (10, vs))) (hv : vs[20]? = some v) (r : RQ G mX12_shakeIt d 60 [x0, x1, x2, x3] (v :: S) (h) P) : RQ G mX12_shakeIt d 57 [x0, x1, x2, x3] (.ref i :: S) h P := q_get (M := mX12_shakeIt) (pc := 57) (kf := 20) dX12_shakeIt_57 (show CL[10]? = some (RX12, TX12, 25) from rfl) inA12 (by decide) rfl w1443 ha hv r
theorem tX12_shakeIt_60 {v : Int32} (r : RQ G mX12_shakeIt d 61 [x0, x1, some (.int v), x3] (.int v :: S) (h) P) : RQ G mX12_shakeIt d 60 [x0, x1, some (.int v), x3] (S) h P := q_iload_n (M := mX12_shakeIt) (pc := 60) dX12_shakeIt_60 rfl rfl r
theorem tX12_shakeIt_61 {v : Int32} (r : RQ G mX12_shakeIt d 62 [x0, x1, x2, some (.int v)] (.int v :: S) (h) P) : RQ G mX12_shakeIt d 61 [x0, x1, x2, some (.int v)] (S) h P := q_iload_n (M := mX12_shakeIt) (pc := 61) dX12_shakeIt_61 rfl rfl r
theorem tX12_shakeIt_62 {x y : Int32} (r : RQ G mX12_shakeIt d 63 [x0, x1, x2, x3] (.int (x + y) :: S) (h) P) : RQ G mX12_shakeIt d 62 [x0, x1, x2, x3] (.int y :: .int x :: S) h P := q_iadd (M := mX12_shakeIt) (pc := 62) dX12_shakeIt_62 r
theorem tX12_shakeIt_63 {v w : Value} (hv : ok1 (some v) = true := by rfl) (hw : ok1 (some w) = true := by rfl) (r : RQ G mX12_shakeIt d 64 [x0, x1, x2, x3] (v :: w :: v :: w :: S) (h) P) : RQ G mX12_shakeIt d 63 [x0, x1, x2, x3] (v :: w :: S) h P := q_dup2 (M := mX12_shakeIt) (pc := 63) dX12_shakeIt_63 hv hw r
theorem tX12_shakeIt_64 {a n j : Nat} {x : Int32} {f : Nat → Int32} (ha : At h a (.inl (0, n, .inl f))) (hx : x = nI j) (hj : j < n) (hn : n < 2147483648) (r : RQ G mX12_shakeIt d 65 [x0, x1, x2, x3] (.int (f j) :: S) (h) P) : RQ G mX12_shakeIt d 64 [x0, x1, x2, x3] (.int x :: .ref a :: S) h P := q_iald (M := mX12_shakeIt) (pc := 64) dX12_shakeIt_64 ha hx hj hn r
theorem tX12_shakeIt_65 {k : Nat} (r : RQ G mX12_shakeIt d 66 [some (.ref k), x1, x2, x3] (.ref k :: S) (h) P) : RQ G mX12_shakeIt d 65 [some (.ref k), x1, x2, x3] (S) h P := q_aload_n (M := mX12_shakeIt) (pc := 65) (r0 := some k) dX12_shakeIt_65 rfl rfl r
theorem tX12_shakeIt_66 {i : Nat} {vs : List Value} {v : Value} (ha : At h i (.inr (10, vs))) (hv : vs[24]? = some v) (r : RQ G mX12_shakeIt d 69 [x0, x1, x2, x3] (v :: S) (h) P) : RQ G mX12_shakeIt d 66 [x0, x1, x2, x3] (.ref i :: S) h P := q_get (M := mX12_shakeIt) (pc := 66) (kf := 24) dX12_shakeIt_66 (show CL[10]? = some (RX12, TX12, 25) from rfl) inA12 (by decide) rfl w1447 ha hv r
theorem tX12_shakeIt_69 {v : Int32} (r : RQ G mX12_shakeIt d 70 [x0, x1, x2, some (.int v)] (.int v :: S) (h) P) : RQ G mX12_shakeIt d 69 [x0, x1, x2, some (.int v)] (S) h P := q_iload_n (M := mX12_shakeIt) (pc := 69) dX12_shakeIt_69 rfl rfl r
theorem tX12_shakeIt_70 {k : Nat} (r : RQ G mX12_shakeIt d 71 [some (.ref k), x1, x2, x3] (.ref k :: S) (h) P) : RQ G mX12_shakeIt d 70 [some (.ref k), x1, x2, x3] (S) h P := q_aload_n (M := mX12_shakeIt) (pc := 70) (r0 := some k) dX12_shakeIt_70 rfl rfl r
theorem tX12_shakeIt_71 {i : Nat} {vs : List Value} {v : Value} (ha : At h i (.inr (10, vs))) (hv : vs[17]? = some v) (r : RQ G mX12_shakeIt d 74 [x0, x1, x2, x3] (v :: S) (h) P) : RQ G mX12_shakeIt d 71 [x0, x1, x2, x3] (.ref i :: S) h P := q_get (M := mX12_shakeIt) (pc := 71) (kf := 17) dX12_shakeIt_71 (show CL[10]? = some (RX12, TX12, 25) from rfl) inA12 (by decide) rfl w1440 ha hv r
theorem tX12_shakeIt_74 {i : Nat} {vs : List Value} {v : Value} (ha : At h i (.inr (9, vs))) (hv : vs[0]? = some v) (r : RQ G mX12_shakeIt d 77 [x0, x1, x2, x3] (v :: S) (h) P) : RQ G mX12_shakeIt d 74 [x0, x1, x2, x3] (.ref i :: S) h P := q_getN (M := mX12_shakeIt) (pc := 74) (kf := 0) dX12_shakeIt_74 (show CL[9]? = some (RX11, TX11, 24) from rfl) inA11 (by decide) rfl v1320 ha hv r
theorem tX12_shakeIt_77 {x y : Int32} (r : RQ G mX12_shakeIt d 78 [x0, x1, x2, x3] (.int (x + y) :: S) (h) P) : RQ G mX12_shakeIt d 77 [x0, x1, x2, x3] (.int y :: .int x :: S) h P := q_iadd (M := mX12_shakeIt) (pc := 77) dX12_shakeIt_77 r
theorem tX12_shakeIt_78 (r : RQ G mX12_shakeIt d 79 [x0, x1, x2, x3] (.int (nI 1) :: S) (h) P) : RQ G mX12_shakeIt d 78 [x0, x1, x2, x3] (S) h P := q_iconst (M := mX12_shakeIt) (pc := 78) dX12_shakeIt_78 (by decide) r
theorem tX12_shakeIt_79 {x y : Int32} (r : RQ G mX12_shakeIt d 80 [x0, x1, x2, x3] (.int (x - y) :: S) (h) P) : RQ G mX12_shakeIt d 79 [x0, x1, x2, x3] (.int y :: .int x :: S) h P := q_isub (M := mX12_shakeIt) (pc := 79) dX12_shakeIt_79 r
theorem tX12_shakeIt_80 {k : Nat} (r : RQ G mX12_shakeIt d 81 [some (.ref k), x1, x2, x3] (.ref k :: S) (h) P) : RQ G mX12_shakeIt d 80 [some (.ref k), x1, x2, x3] (S) h P := q_aload_n (M := mX12_shakeIt) (pc := 80) (r0 := some k) dX12_shakeIt_80 rfl rfl r
theorem tX12_shakeIt_81 {i : Nat} {vs : List Value} {v : Value} (ha : At h i (.inr (10, vs))) (hv : vs[17]? = some v) (r : RQ G mX12_shakeIt d 84 [x0, x1, x2, x3] (v :: S) (h) P) : RQ G mX12_shakeIt d 81 [x0, x1, x2, x3] (.ref i :: S) h P := q_get (M := mX12_shakeIt) (pc := 81) (kf := 17) dX12_shakeIt_81 (show CL[10]? = some (RX12, TX12, 25) from rfl) inA12 (by decide) rfl w1440 ha hv r
theorem tX12_shakeIt_84 {i : Nat} {vs : List Value} {v : Value} (ha : At h i (.inr (9, vs))) (hv : vs[0]? = some v) (r : RQ G mX12_shakeIt d 87 [x0, x1, x2, x3] (v :: S) (h) P) : RQ G mX12_shakeIt d 84 [x0, x1, x2, x3] (.ref i :: S) h P := q_getN (M := mX12_shakeIt) (pc := 84) (kf := 0) dX12_shakeIt_84 (show CL[9]? = some (RX11, TX11, 24) from rfl) inA11 (by decide) rfl v1320 ha hv r
theorem tX12_shakeIt_87 {x y : Int32} (hne : ¬ y = 0) (r : RQ G mX12_shakeIt d 88 [x0, x1, x2, x3] (.int (x - x / y * y) :: S) (h) P) : RQ G mX12_shakeIt d 87 [x0, x1, x2, x3] (.int y :: .int x :: S) h P := q_irem (M := mX12_shakeIt) (pc := 87) dX12_shakeIt_87 hne r
theorem tX12_shakeIt_88 {a n j : Nat} {x : Int32} {f : Nat → Int32} (ha : At h a (.inl (0, n, .inl f))) (hx : x = nI j) (hj : j < n) (hn : n < 2147483648) (r : RQ G mX12_shakeIt d 89 [x0, x1, x2, x3] (.int (f j) :: S) (h) P) : RQ G mX12_shakeIt d 88 [x0, x1, x2, x3] (.int x :: .ref a :: S) h P := q_iald (M := mX12_shakeIt) (pc := 88) dX12_shakeIt_88 ha hx hj hn r
theorem tX12_shakeIt_89 {k : Nat} (r : RQ G mX12_shakeIt d 90 [some (.ref k), x1, x2, x3] (.ref k :: S) (h) P) : RQ G mX12_shakeIt d 89 [some (.ref k), x1, x2, x3] (S) h P := q_aload_n (M := mX12_shakeIt) (pc := 89) (r0 := some k) dX12_shakeIt_89 rfl rfl r
theorem tX12_shakeIt_90 {i : Nat} {vs : List Value} {v : Value} (ha : At h i (.inr (10, vs))) (hv : vs[24]? = some v) (r : RQ G mX12_shakeIt d 93 [x0, x1, x2, x3] (v :: S) (h) P) : RQ G mX12_shakeIt d 90 [x0, x1, x2, x3] (.ref i :: S) h P := q_get (M := mX12_shakeIt) (pc := 90) (kf := 24) dX12_shakeIt_90 (show CL[10]? = some (RX12, TX12, 25) from rfl) inA12 (by decide) rfl w1447 ha hv r
theorem tX12_shakeIt_93 {v : Int32} (r : RQ G mX12_shakeIt d 94 [x0, x1, x2, some (.int v)] (.int v :: S) (h) P) : RQ G mX12_shakeIt d 93 [x0, x1, x2, some (.int v)] (S) h P := q_iload_n (M := mX12_shakeIt) (pc := 93) dX12_shakeIt_93 rfl rfl r
theorem tX12_shakeIt_94 {a n j : Nat} {x : Int32} {f : Nat → Int32} (ha : At h a (.inl (0, n, .inl f))) (hx : x = nI j) (hj : j < n) (hn : n < 2147483648) (r : RQ G mX12_shakeIt d 95 [x0, x1, x2, x3] (.int (f j) :: S) (h) P) : RQ G mX12_shakeIt d 94 [x0, x1, x2, x3] (.int x :: .ref a :: S) h P := q_iald (M := mX12_shakeIt) (pc := 94) dX12_shakeIt_94 ha hx hj hn r
theorem tX12_shakeIt_95 {x y : Int32} (r : RQ G mX12_shakeIt d 96 [x0, x1, x2, x3] (.int (x - y) :: S) (h) P) : RQ G mX12_shakeIt d 95 [x0, x1, x2, x3] (.int y :: .int x :: S) h P := q_isub (M := mX12_shakeIt) (pc := 95) dX12_shakeIt_95 r
theorem tX12_shakeIt_96 {x y : Int32} (r : RQ G mX12_shakeIt d 97 [x0, x1, x2, x3] (.int (x + y) :: S) (h) P) : RQ G mX12_shakeIt d 96 [x0, x1, x2, x3] (.int y :: .int x :: S) h P := q_iadd (M := mX12_shakeIt) (pc := 96) dX12_shakeIt_96 r
theorem tX12_shakeIt_97 {a n j : Nat} {x : Int32} {v : Int32} {f : Nat → Int32} (ha : At h a (.inl (0, n, .inl f))) (hx : x = nI j) (hj : j < n) (hn : n < 2147483648) (r : RQ G mX12_shakeIt d 98 [x0, x1, x2, x3] (S) (hset h a (.inl (0, n, .inl (upd f j v)))) P) : RQ G mX12_shakeIt d 97 [x0, x1, x2, x3] (.int v :: .int x :: .ref a :: S) h P := q_iast (M := mX12_shakeIt) (pc := 97) dX12_shakeIt_97 ha hx hj hn r
theorem tX12_shakeIt_98 {v : Int32} (ho : ok1 x2 = true := by rfl) (r : RQ G mX12_shakeIt d 101 [x0, x1, x2, some (.int (v + (nI 1)))] (S) (h) P) : RQ G mX12_shakeIt d 98 [x0, x1, x2, some (.int v)] (S) h P := q_iinc (M := mX12_shakeIt) (pc := 98) dX12_shakeIt_98 rfl (congrArg (v + ·) (show Int32.ofInt (1) = (nI 1) by decide)) (Nat.le_of_ble_eq_true rfl) ho r
theorem tX12_shakeIt_101 (r : RQ G mX12_shakeIt d 45 [x0, x1, x2, x3] S h P) : RQ G mX12_shakeIt d 101 [x0, x1, x2, x3] (S) h P := q_goto (M := mX12_shakeIt) (pc := 101) dX12_shakeIt_101 (by decide) r
theorem tX12_shakeIt_104 (hP : P (.inl none) h) : RQ G mX12_shakeIt d 104 [x0, x1, x2, x3] ([]) h P := q_return (M := mX12_shakeIt) (pc := 104) dX12_shakeIt_104 rfl hP
end T
theorem dX12_pourIt_0 : decode cX12_pourIt 0 = .ok (.iconst 0, 1) := by decide +kernel
theorem dX12_pourIt_1 : decode cX12_pourIt 1 = .ok (.iload 4, 2) := by decide +kernel
theorem dX12_pourIt_3 : decode cX12_pourIt 3 = .ok (.aload_n 0, 1) := by decide +kernel
theorem dX12_pourIt_4 : decode cX12_pourIt 4 = .ok (.iload_n 1, 1) := by decide +kernel
theorem dX12_pourIt_5 : decode cX12_pourIt 5 = .ok (.iload_n 2, 1) := by decide +kernel
theorem dX12_pourIt_6 : decode cX12_pourIt 6 = .ok (.invokevirtual 315, 3) := by decide +kernel
theorem dX12_pourIt_9 : decode cX12_pourIt 9 = .ok (.invokestatic 183, 3) := by decide +kernel
theorem dX12_pourIt_12 : decode cX12_pourIt 12 = .ok (.invokestatic 330, 3) := by decide +kernel
theorem dX12_pourIt_15 : decode cX12_pourIt 15 = .ok (.istore 5, 2) := by decide +kernel
theorem dX12_pourIt_17 : decode cX12_pourIt 17 = .ok (.aload_n 0, 1) := by decide +kernel
theorem dX12_pourIt_18 : decode cX12_pourIt 18 = .ok (.getfield 51, 3) := by decide +kernel
theorem dX12_pourIt_21 : decode cX12_pourIt 21 = .ok (.iconst 1, 1) := by decide +kernel
theorem dX12_pourIt_22 : decode cX12_pourIt 22 = .ok (.bipush 6, 2) := by decide +kernel
theorem dX12_pourIt_24 : decode cX12_pourIt 24 = .ok (.iload_n 1, 1) := by decide +kernel
theorem dX12_pourIt_25 : decode cX12_pourIt 25 = .ok (.imul, 1) := by decide +kernel
theorem dX12_pourIt_26 : decode cX12_pourIt 26 = .ok (.iadd, 1) := by decide +kernel
theorem dX12_pourIt_27 : decode cX12_pourIt 27 = .ok (.iload_n 2, 1) := by decide +kernel
theorem dX12_pourIt_28 : decode cX12_pourIt 28 = .ok (.iadd, 1) := by decide +kernel
theorem dX12_pourIt_29 : decode cX12_pourIt 29 = .ok (.dup2, 1) := by decide +kernel
theorem dX12_pourIt_30 : decode cX12_pourIt 30 = .ok (.iaload, 1) := by decide +kernel
theorem dX12_pourIt_31 : decode cX12_pourIt 31 = .ok (.iload 5, 2) := by decide +kernel
theorem dX12_pourIt_33 : decode cX12_pourIt 33 = .ok (.isub, 1) := by decide +kernel
theorem dX12_pourIt_34 : decode cX12_pourIt 34 = .ok (.iastore, 1) := by decide +kernel
theorem dX12_pourIt_35 : decode cX12_pourIt 35 = .ok (.aload_n 0, 1) := by decide +kernel
theorem dX12_pourIt_36 : decode cX12_pourIt 36 = .ok (.getfield 51, 3) := by decide +kernel
theorem dX12_pourIt_39 : decode cX12_pourIt 39 = .ok (.iconst 1, 1) := by decide +kernel
theorem dX12_pourIt_40 : decode cX12_pourIt 40 = .ok (.bipush 6, 2) := by decide +kernel
theorem dX12_pourIt_42 : decode cX12_pourIt 42 = .ok (.iload_n 1, 1) := by decide +kernel
theorem dX12_pourIt_43 : decode cX12_pourIt 43 = .ok (.imul, 1) := by decide +kernel
theorem dX12_pourIt_44 : decode cX12_pourIt 44 = .ok (.iadd, 1) := by decide +kernel
theorem dX12_pourIt_45 : decode cX12_pourIt 45 = .ok (.iload_n 3, 1) := by decide +kernel
theorem dX12_pourIt_46 : decode cX12_pourIt 46 = .ok (.iadd, 1) := by decide +kernel
theorem dX12_pourIt_47 : decode cX12_pourIt 47 = .ok (.dup2, 1) := by decide +kernel
theorem dX12_pourIt_48 : decode cX12_pourIt 48 = .ok (.iaload, 1) := by decide +kernel
theorem dX12_pourIt_49 : decode cX12_pourIt 49 = .ok (.iload 5, 2) := by decide +kernel
theorem dX12_pourIt_51 : decode cX12_pourIt 51 = .ok (.iadd, 1) := by decide +kernel
theorem dX12_pourIt_52 : decode cX12_pourIt 52 = .ok (.iastore, 1) := by decide +kernel
theorem dX12_pourIt_53 : decode cX12_pourIt 53 = .ok (.iload 5, 2) := by decide +kernel
theorem dX12_pourIt_55 : decode cX12_pourIt 55 = .ok (.ireturn, 1) := by decide +kernel
section T
variable {G : GT} {d : Nat} {S : List Value} {h : AH} {P : OC → AH → Prop} {x0 x1 x2 x3 x4 x5 x6 x7 x8 x9 x10 x11 x12 x13 x14 x15 : Option Value}
theorem tX12_pourIt_0 (r : RQ G mX12_pourIt d 1 [x0, x1, x2, x3, x4, x5] (.int (nI 0) :: S) (h) P) : RQ G mX12_pourIt d 0 [x0, x1, x2, x3, x4, x5] (S) h P := q_iconst (M := mX12_pourIt) (pc := 0) dX12_pourIt_0 (by decide) r
theorem tX12_pourIt_1 {v : Int32} (r : RQ G mX12_pourIt d 3 [x0, x1, x2, x3, some (.int v), x5] (.int v :: S) (h) P) : RQ G mX12_pourIt d 1 [x0, x1, x2, x3, some (.int v), x5] (S) h P := q_iload (M := mX12_pourIt) (pc := 1) dX12_pourIt_1 rfl r
theorem tX12_pourIt_3 {k : Nat} (r : RQ G mX12_pourIt d 4 [some (.ref k), x1, x2, x3, x4, x5] (.ref k :: S) (h) P) : RQ G mX12_pourIt d 3 [some (.ref k), x1, x2, x3, x4, x5] (S) h P := q_aload_n (M := mX12_pourIt) (pc := 3) (r0 := some k) dX12_pourIt_3 rfl rfl r
theorem tX12_pourIt_4 {v : Int32} (r : RQ G mX12_pourIt d 5 [x0, some (.int v), x2, x3, x4, x5] (.int v :: S) (h) P) : RQ G mX12_pourIt d 4 [x0, some (.int v), x2, x3, x4, x5] (S) h P := q_iload_n (M := mX12_pourIt) (pc := 4) dX12_pourIt_4 rfl rfl r
theorem tX12_pourIt_5 {v : Int32} (r : RQ G mX12_pourIt d 6 [x0, x1, some (.int v), x3, x4, x5] (.int v :: S) (h) P) : RQ G mX12_pourIt d 5 [x0, x1, some (.int v), x3, x4, x5] (S) h P := q_iload_n (M := mX12_pourIt) (pc := 5) dX12_pourIt_5 rfl rfl r
theorem tX12_pourIt_6 {b d2 : Nat} {vs : List Value} {a0 : Int32} {a1 : Int32} {Q : Int32 → AH → Prop} (hd : d2 + 1 ≤ d) (ha : At h b (.inr (10, vs))) (call : RQ G mX12_held d2 0 [some (.ref b), some (.int a0), some (.int a1)] [] h (Ri Q)) (k : ∀ x h1, Q x h1 → RQ G mX12_pourIt d 9 [x0, x1, x2, x3, x4, x5] (.int x :: S) h1 P) (hst : (S.map fun v => v.category).sum ≤ 8 := by exact Nat.le_of_ble_eq_true rfl)  : RQ G mX12_pourIt d 6 [x0, x1, x2, x3, x4, x5] (.int a1 :: .int a0 :: .ref b :: S) h P := q_callV (M := mX12_pourIt) (pc := 6) (M2 := mX12_held) (As := [.int a0, .int a1]) (n := 2) dX12_pourIt_6 rfl ⟨by decide, by decide, by decide, rfl⟩ rfl w1716 w1718 w77 w120 w1719 (show CL[10]? = some (RX12, TX12, 25) from rfl) hd (by decide) (Nat.le_of_ble_eq_true rfl) rfl ha hst call (callk_i k)
theorem tX12_pourIt_9 {x y : Int32} (hd : 1 ≤ d) (hst : (S.map fun v => v.category).sum ≤ 8 := by exact Nat.le_of_ble_eq_true rfl) (r : RQ G mX12_pourIt d 12 [x0, x1, x2, x3, x4, x5] (.int (if y < x then y else x) :: S) (h) P) : RQ G mX12_pourIt d 9 [x0, x1, x2, x3, x4, x5] (.int y :: .int x :: S) h P := q_min (M := mX12_pourIt) (pc := 9) dX12_pourIt_9 w1599 w1077 w132 w1078 hd hst r
theorem tX12_pourIt_12 {x y : Int32} (hd : 1 ≤ d) (hst : (S.map fun v => v.category).sum ≤ 8 := by exact Nat.le_of_ble_eq_true rfl) (r : RQ G mX12_pourIt d 15 [x0, x1, x2, x3, x4, x5] (.int (if x < y then y else x) :: S) (h) P) : RQ G mX12_pourIt d 12 [x0, x1, x2, x3, x4, x5] (.int y :: .int x :: S) h P := q_max (M := mX12_pourIt) (pc := 12) dX12_pourIt_12 w1776 w969 w132 w970 hd hst r
theorem tX12_pourIt_15 {v : Int32} (ho : ok1 x4 = true := by rfl) (r : RQ G mX12_pourIt d 17 [x0, x1, x2, x3, x4, some (.int v)] (S) (h) P) : RQ G mX12_pourIt d 15 [x0, x1, x2, x3, x4, x5] (.int v :: S) h P := q_istore (M := mX12_pourIt) (pc := 15) dX12_pourIt_15 (Nat.le_of_ble_eq_true rfl) ho r
theorem tX12_pourIt_17 {k : Nat} (r : RQ G mX12_pourIt d 18 [some (.ref k), x1, x2, x3, x4, x5] (.ref k :: S) (h) P) : RQ G mX12_pourIt d 17 [some (.ref k), x1, x2, x3, x4, x5] (S) h P := q_aload_n (M := mX12_pourIt) (pc := 17) (r0 := some k) dX12_pourIt_17 rfl rfl r
theorem tX12_pourIt_18 {i : Nat} {vs : List Value} {v : Value} (ha : At h i (.inr (10, vs))) (hv : vs[20]? = some v) (r : RQ G mX12_pourIt d 21 [x0, x1, x2, x3, x4, x5] (v :: S) (h) P) : RQ G mX12_pourIt d 18 [x0, x1, x2, x3, x4, x5] (.ref i :: S) h P := q_get (M := mX12_pourIt) (pc := 18) (kf := 20) dX12_pourIt_18 (show CL[10]? = some (RX12, TX12, 25) from rfl) inA12 (by decide) rfl w1443 ha hv r
theorem tX12_pourIt_21 (r : RQ G mX12_pourIt d 22 [x0, x1, x2, x3, x4, x5] (.int (nI 1) :: S) (h) P) : RQ G mX12_pourIt d 21 [x0, x1, x2, x3, x4, x5] (S) h P := q_iconst (M := mX12_pourIt) (pc := 21) dX12_pourIt_21 (by decide) r
theorem tX12_pourIt_22 (r : RQ G mX12_pourIt d 24 [x0, x1, x2, x3, x4, x5] (.int (nI 6) :: S) (h) P) : RQ G mX12_pourIt d 22 [x0, x1, x2, x3, x4, x5] (S) h P := q_bipush (M := mX12_pourIt) (pc := 22) dX12_pourIt_22 (by decide) r
theorem tX12_pourIt_24 {v : Int32} (r : RQ G mX12_pourIt d 25 [x0, some (.int v), x2, x3, x4, x5] (.int v :: S) (h) P) : RQ G mX12_pourIt d 24 [x0, some (.int v), x2, x3, x4, x5] (S) h P := q_iload_n (M := mX12_pourIt) (pc := 24) dX12_pourIt_24 rfl rfl r
theorem tX12_pourIt_25 {x y : Int32} (r : RQ G mX12_pourIt d 26 [x0, x1, x2, x3, x4, x5] (.int (x * y) :: S) (h) P) : RQ G mX12_pourIt d 25 [x0, x1, x2, x3, x4, x5] (.int y :: .int x :: S) h P := q_imul (M := mX12_pourIt) (pc := 25) dX12_pourIt_25 r
theorem tX12_pourIt_26 {x y : Int32} (r : RQ G mX12_pourIt d 27 [x0, x1, x2, x3, x4, x5] (.int (x + y) :: S) (h) P) : RQ G mX12_pourIt d 26 [x0, x1, x2, x3, x4, x5] (.int y :: .int x :: S) h P := q_iadd (M := mX12_pourIt) (pc := 26) dX12_pourIt_26 r
theorem tX12_pourIt_27 {v : Int32} (r : RQ G mX12_pourIt d 28 [x0, x1, some (.int v), x3, x4, x5] (.int v :: S) (h) P) : RQ G mX12_pourIt d 27 [x0, x1, some (.int v), x3, x4, x5] (S) h P := q_iload_n (M := mX12_pourIt) (pc := 27) dX12_pourIt_27 rfl rfl r
theorem tX12_pourIt_28 {x y : Int32} (r : RQ G mX12_pourIt d 29 [x0, x1, x2, x3, x4, x5] (.int (x + y) :: S) (h) P) : RQ G mX12_pourIt d 28 [x0, x1, x2, x3, x4, x5] (.int y :: .int x :: S) h P := q_iadd (M := mX12_pourIt) (pc := 28) dX12_pourIt_28 r
theorem tX12_pourIt_29 {v w : Value} (hv : ok1 (some v) = true := by rfl) (hw : ok1 (some w) = true := by rfl) (r : RQ G mX12_pourIt d 30 [x0, x1, x2, x3, x4, x5] (v :: w :: v :: w :: S) (h) P) : RQ G mX12_pourIt d 29 [x0, x1, x2, x3, x4, x5] (v :: w :: S) h P := q_dup2 (M := mX12_pourIt) (pc := 29) dX12_pourIt_29 hv hw r
theorem tX12_pourIt_30 {a n j : Nat} {x : Int32} {f : Nat → Int32} (ha : At h a (.inl (0, n, .inl f))) (hx : x = nI j) (hj : j < n) (hn : n < 2147483648) (r : RQ G mX12_pourIt d 31 [x0, x1, x2, x3, x4, x5] (.int (f j) :: S) (h) P) : RQ G mX12_pourIt d 30 [x0, x1, x2, x3, x4, x5] (.int x :: .ref a :: S) h P := q_iald (M := mX12_pourIt) (pc := 30) dX12_pourIt_30 ha hx hj hn r
theorem tX12_pourIt_31 {v : Int32} (r : RQ G mX12_pourIt d 33 [x0, x1, x2, x3, x4, some (.int v)] (.int v :: S) (h) P) : RQ G mX12_pourIt d 31 [x0, x1, x2, x3, x4, some (.int v)] (S) h P := q_iload (M := mX12_pourIt) (pc := 31) dX12_pourIt_31 rfl r
theorem tX12_pourIt_33 {x y : Int32} (r : RQ G mX12_pourIt d 34 [x0, x1, x2, x3, x4, x5] (.int (x - y) :: S) (h) P) : RQ G mX12_pourIt d 33 [x0, x1, x2, x3, x4, x5] (.int y :: .int x :: S) h P := q_isub (M := mX12_pourIt) (pc := 33) dX12_pourIt_33 r
theorem tX12_pourIt_34 {a n j : Nat} {x : Int32} {v : Int32} {f : Nat → Int32} (ha : At h a (.inl (0, n, .inl f))) (hx : x = nI j) (hj : j < n) (hn : n < 2147483648) (r : RQ G mX12_pourIt d 35 [x0, x1, x2, x3, x4, x5] (S) (hset h a (.inl (0, n, .inl (upd f j v)))) P) : RQ G mX12_pourIt d 34 [x0, x1, x2, x3, x4, x5] (.int v :: .int x :: .ref a :: S) h P := q_iast (M := mX12_pourIt) (pc := 34) dX12_pourIt_34 ha hx hj hn r
theorem tX12_pourIt_35 {k : Nat} (r : RQ G mX12_pourIt d 36 [some (.ref k), x1, x2, x3, x4, x5] (.ref k :: S) (h) P) : RQ G mX12_pourIt d 35 [some (.ref k), x1, x2, x3, x4, x5] (S) h P := q_aload_n (M := mX12_pourIt) (pc := 35) (r0 := some k) dX12_pourIt_35 rfl rfl r
theorem tX12_pourIt_36 {i : Nat} {vs : List Value} {v : Value} (ha : At h i (.inr (10, vs))) (hv : vs[20]? = some v) (r : RQ G mX12_pourIt d 39 [x0, x1, x2, x3, x4, x5] (v :: S) (h) P) : RQ G mX12_pourIt d 36 [x0, x1, x2, x3, x4, x5] (.ref i :: S) h P := q_get (M := mX12_pourIt) (pc := 36) (kf := 20) dX12_pourIt_36 (show CL[10]? = some (RX12, TX12, 25) from rfl) inA12 (by decide) rfl w1443 ha hv r
theorem tX12_pourIt_39 (r : RQ G mX12_pourIt d 40 [x0, x1, x2, x3, x4, x5] (.int (nI 1) :: S) (h) P) : RQ G mX12_pourIt d 39 [x0, x1, x2, x3, x4, x5] (S) h P := q_iconst (M := mX12_pourIt) (pc := 39) dX12_pourIt_39 (by decide) r
theorem tX12_pourIt_40 (r : RQ G mX12_pourIt d 42 [x0, x1, x2, x3, x4, x5] (.int (nI 6) :: S) (h) P) : RQ G mX12_pourIt d 40 [x0, x1, x2, x3, x4, x5] (S) h P := q_bipush (M := mX12_pourIt) (pc := 40) dX12_pourIt_40 (by decide) r
theorem tX12_pourIt_42 {v : Int32} (r : RQ G mX12_pourIt d 43 [x0, some (.int v), x2, x3, x4, x5] (.int v :: S) (h) P) : RQ G mX12_pourIt d 42 [x0, some (.int v), x2, x3, x4, x5] (S) h P := q_iload_n (M := mX12_pourIt) (pc := 42) dX12_pourIt_42 rfl rfl r
theorem tX12_pourIt_43 {x y : Int32} (r : RQ G mX12_pourIt d 44 [x0, x1, x2, x3, x4, x5] (.int (x * y) :: S) (h) P) : RQ G mX12_pourIt d 43 [x0, x1, x2, x3, x4, x5] (.int y :: .int x :: S) h P := q_imul (M := mX12_pourIt) (pc := 43) dX12_pourIt_43 r
theorem tX12_pourIt_44 {x y : Int32} (r : RQ G mX12_pourIt d 45 [x0, x1, x2, x3, x4, x5] (.int (x + y) :: S) (h) P) : RQ G mX12_pourIt d 44 [x0, x1, x2, x3, x4, x5] (.int y :: .int x :: S) h P := q_iadd (M := mX12_pourIt) (pc := 44) dX12_pourIt_44 r
theorem tX12_pourIt_45 {v : Int32} (r : RQ G mX12_pourIt d 46 [x0, x1, x2, some (.int v), x4, x5] (.int v :: S) (h) P) : RQ G mX12_pourIt d 45 [x0, x1, x2, some (.int v), x4, x5] (S) h P := q_iload_n (M := mX12_pourIt) (pc := 45) dX12_pourIt_45 rfl rfl r
theorem tX12_pourIt_46 {x y : Int32} (r : RQ G mX12_pourIt d 47 [x0, x1, x2, x3, x4, x5] (.int (x + y) :: S) (h) P) : RQ G mX12_pourIt d 46 [x0, x1, x2, x3, x4, x5] (.int y :: .int x :: S) h P := q_iadd (M := mX12_pourIt) (pc := 46) dX12_pourIt_46 r
theorem tX12_pourIt_47 {v w : Value} (hv : ok1 (some v) = true := by rfl) (hw : ok1 (some w) = true := by rfl) (r : RQ G mX12_pourIt d 48 [x0, x1, x2, x3, x4, x5] (v :: w :: v :: w :: S) (h) P) : RQ G mX12_pourIt d 47 [x0, x1, x2, x3, x4, x5] (v :: w :: S) h P := q_dup2 (M := mX12_pourIt) (pc := 47) dX12_pourIt_47 hv hw r
theorem tX12_pourIt_48 {a n j : Nat} {x : Int32} {f : Nat → Int32} (ha : At h a (.inl (0, n, .inl f))) (hx : x = nI j) (hj : j < n) (hn : n < 2147483648) (r : RQ G mX12_pourIt d 49 [x0, x1, x2, x3, x4, x5] (.int (f j) :: S) (h) P) : RQ G mX12_pourIt d 48 [x0, x1, x2, x3, x4, x5] (.int x :: .ref a :: S) h P := q_iald (M := mX12_pourIt) (pc := 48) dX12_pourIt_48 ha hx hj hn r
theorem tX12_pourIt_49 {v : Int32} (r : RQ G mX12_pourIt d 51 [x0, x1, x2, x3, x4, some (.int v)] (.int v :: S) (h) P) : RQ G mX12_pourIt d 49 [x0, x1, x2, x3, x4, some (.int v)] (S) h P := q_iload (M := mX12_pourIt) (pc := 49) dX12_pourIt_49 rfl r
theorem tX12_pourIt_51 {x y : Int32} (r : RQ G mX12_pourIt d 52 [x0, x1, x2, x3, x4, x5] (.int (x + y) :: S) (h) P) : RQ G mX12_pourIt d 51 [x0, x1, x2, x3, x4, x5] (.int y :: .int x :: S) h P := q_iadd (M := mX12_pourIt) (pc := 51) dX12_pourIt_51 r
theorem tX12_pourIt_52 {a n j : Nat} {x : Int32} {v : Int32} {f : Nat → Int32} (ha : At h a (.inl (0, n, .inl f))) (hx : x = nI j) (hj : j < n) (hn : n < 2147483648) (r : RQ G mX12_pourIt d 53 [x0, x1, x2, x3, x4, x5] (S) (hset h a (.inl (0, n, .inl (upd f j v)))) P) : RQ G mX12_pourIt d 52 [x0, x1, x2, x3, x4, x5] (.int v :: .int x :: .ref a :: S) h P := q_iast (M := mX12_pourIt) (pc := 52) dX12_pourIt_52 ha hx hj hn r
theorem tX12_pourIt_53 {v : Int32} (r : RQ G mX12_pourIt d 55 [x0, x1, x2, x3, x4, some (.int v)] (.int v :: S) (h) P) : RQ G mX12_pourIt d 53 [x0, x1, x2, x3, x4, some (.int v)] (S) h P := q_iload (M := mX12_pourIt) (pc := 53) dX12_pourIt_53 rfl r
theorem tX12_pourIt_55 {x : Int32} (hP : P (.inl (some (.int x))) h) : RQ G mX12_pourIt d 55 [x0, x1, x2, x3, x4, x5] ([.int x]) h P := q_ireturn (M := mX12_pourIt) (pc := 55) (ty := .int) dX12_pourIt_55 rfl rfl hP
end T
theorem dX12_canJoin_0 : decode cX12_canJoin 0 = .ok (.iload_n 2, 1) := by decide +kernel
theorem dX12_canJoin_1 : decode cX12_canJoin 1 = .ok (.istore_n 3, 1) := by decide +kernel
theorem dX12_canJoin_2 : decode cX12_canJoin 2 = .ok (.iload_n 3, 1) := by decide +kernel
theorem dX12_canJoin_3 : decode cX12_canJoin 3 = .ok (.iload_n 1, 1) := by decide +kernel
theorem dX12_canJoin_4 : decode cX12_canJoin 4 = .ok (.if_icmp .eq 21, 3) := by decide +kernel
theorem dX12_canJoin_7 : decode cX12_canJoin 7 = .ok (.iload_n 3, 1) := by decide +kernel
theorem dX12_canJoin_8 : decode cX12_canJoin 8 = .ok (.iconst (-1), 1) := by decide +kernel
theorem dX12_canJoin_9 : decode cX12_canJoin 9 = .ok (.if_icmp .eq 16, 3) := by decide +kernel
theorem dX12_canJoin_12 : decode cX12_canJoin 12 = .ok (.aload_n 0, 1) := by decide +kernel
theorem dX12_canJoin_13 : decode cX12_canJoin 13 = .ok (.getfield 51, 3) := by decide +kernel
theorem dX12_canJoin_16 : decode cX12_canJoin 16 = .ok (.bipush 49, 2) := by decide +kernel
theorem dX12_canJoin_18 : decode cX12_canJoin 18 = .ok (.iload_n 3, 1) := by decide +kernel
theorem dX12_canJoin_19 : decode cX12_canJoin 19 = .ok (.iadd, 1) := by decide +kernel
theorem dX12_canJoin_20 : decode cX12_canJoin 20 = .ok (.iaload, 1) := by decide +kernel
theorem dX12_canJoin_21 : decode cX12_canJoin 21 = .ok (.istore_n 3, 1) := by decide +kernel
theorem dX12_canJoin_22 : decode cX12_canJoin 22 = .ok (.goto (-20), 3) := by decide +kernel
theorem dX12_canJoin_25 : decode cX12_canJoin 25 = .ok (.iload_n 3, 1) := by decide +kernel
theorem dX12_canJoin_26 : decode cX12_canJoin 26 = .ok (.iconst (-1), 1) := by decide +kernel
theorem dX12_canJoin_27 : decode cX12_canJoin 27 = .ok (.if_icmp .ne 7, 3) := by decide +kernel
theorem dX12_canJoin_30 : decode cX12_canJoin 30 = .ok (.iconst 1, 1) := by decide +kernel
theorem dX12_canJoin_31 : decode cX12_canJoin 31 = .ok (.goto 4, 3) := by decide +kernel
theorem dX12_canJoin_34 : decode cX12_canJoin 34 = .ok (.iconst 0, 1) := by decide +kernel
theorem dX12_canJoin_35 : decode cX12_canJoin 35 = .ok (.ireturn, 1) := by decide +kernel
section T
variable {G : GT} {d : Nat} {S : List Value} {h : AH} {P : OC → AH → Prop} {x0 x1 x2 x3 x4 x5 x6 x7 x8 x9 x10 x11 x12 x13 x14 x15 : Option Value}
theorem tX12_canJoin_0 {v : Int32} (r : RQ G mX12_canJoin d 1 [x0, x1, some (.int v), x3] (.int v :: S) (h) P) : RQ G mX12_canJoin d 0 [x0, x1, some (.int v), x3] (S) h P := q_iload_n (M := mX12_canJoin) (pc := 0) dX12_canJoin_0 rfl rfl r
theorem tX12_canJoin_1 {v : Int32} (ho : ok1 x2 = true := by rfl) (r : RQ G mX12_canJoin d 2 [x0, x1, x2, some (.int v)] (S) (h) P) : RQ G mX12_canJoin d 1 [x0, x1, x2, x3] (.int v :: S) h P := q_istore_n (M := mX12_canJoin) (pc := 1) dX12_canJoin_1 rfl (Nat.le_of_ble_eq_true rfl) ho r
theorem tX12_canJoin_2 {v : Int32} (r : RQ G mX12_canJoin d 3 [x0, x1, x2, some (.int v)] (.int v :: S) (h) P) : RQ G mX12_canJoin d 2 [x0, x1, x2, some (.int v)] (S) h P := q_iload_n (M := mX12_canJoin) (pc := 2) dX12_canJoin_2 rfl rfl r
theorem tX12_canJoin_3 {v : Int32} (r : RQ G mX12_canJoin d 4 [x0, some (.int v), x2, x3] (.int v :: S) (h) P) : RQ G mX12_canJoin d 3 [x0, some (.int v), x2, x3] (S) h P := q_iload_n (M := mX12_canJoin) (pc := 3) dX12_canJoin_3 rfl rfl r
theorem tX12_canJoin_4 {x y : Int32} (kt : x = y → RQ G mX12_canJoin d 25 [x0, x1, x2, x3] S h P) (kf : ¬ x = y → RQ G mX12_canJoin d 7 [x0, x1, x2, x3] S h P) : RQ G mX12_canJoin d 4 [x0, x1, x2, x3] (.int y :: .int x :: S) h P := q_icmp_eq (M := mX12_canJoin) (pc := 4) dX12_canJoin_4 (by decide) kt kf
theorem tX12_canJoin_7 {v : Int32} (r : RQ G mX12_canJoin d 8 [x0, x1, x2, some (.int v)] (.int v :: S) (h) P) : RQ G mX12_canJoin d 7 [x0, x1, x2, some (.int v)] (S) h P := q_iload_n (M := mX12_canJoin) (pc := 7) dX12_canJoin_7 rfl rfl r
theorem tX12_canJoin_8 (r : RQ G mX12_canJoin d 9 [x0, x1, x2, x3] (.int (-1) :: S) (h) P) : RQ G mX12_canJoin d 8 [x0, x1, x2, x3] (S) h P := q_iconst (M := mX12_canJoin) (pc := 8) dX12_canJoin_8 (by decide) r
theorem tX12_canJoin_9 {x y : Int32} (kt : x = y → RQ G mX12_canJoin d 25 [x0, x1, x2, x3] S h P) (kf : ¬ x = y → RQ G mX12_canJoin d 12 [x0, x1, x2, x3] S h P) : RQ G mX12_canJoin d 9 [x0, x1, x2, x3] (.int y :: .int x :: S) h P := q_icmp_eq (M := mX12_canJoin) (pc := 9) dX12_canJoin_9 (by decide) kt kf
theorem tX12_canJoin_12 {k : Nat} (r : RQ G mX12_canJoin d 13 [some (.ref k), x1, x2, x3] (.ref k :: S) (h) P) : RQ G mX12_canJoin d 12 [some (.ref k), x1, x2, x3] (S) h P := q_aload_n (M := mX12_canJoin) (pc := 12) (r0 := some k) dX12_canJoin_12 rfl rfl r
theorem tX12_canJoin_13 {i : Nat} {vs : List Value} {v : Value} (ha : At h i (.inr (10, vs))) (hv : vs[20]? = some v) (r : RQ G mX12_canJoin d 16 [x0, x1, x2, x3] (v :: S) (h) P) : RQ G mX12_canJoin d 13 [x0, x1, x2, x3] (.ref i :: S) h P := q_get (M := mX12_canJoin) (pc := 13) (kf := 20) dX12_canJoin_13 (show CL[10]? = some (RX12, TX12, 25) from rfl) inA12 (by decide) rfl w1443 ha hv r
theorem tX12_canJoin_16 (r : RQ G mX12_canJoin d 18 [x0, x1, x2, x3] (.int (nI 49) :: S) (h) P) : RQ G mX12_canJoin d 16 [x0, x1, x2, x3] (S) h P := q_bipush (M := mX12_canJoin) (pc := 16) dX12_canJoin_16 (by decide) r
theorem tX12_canJoin_18 {v : Int32} (r : RQ G mX12_canJoin d 19 [x0, x1, x2, some (.int v)] (.int v :: S) (h) P) : RQ G mX12_canJoin d 18 [x0, x1, x2, some (.int v)] (S) h P := q_iload_n (M := mX12_canJoin) (pc := 18) dX12_canJoin_18 rfl rfl r
theorem tX12_canJoin_19 {x y : Int32} (r : RQ G mX12_canJoin d 20 [x0, x1, x2, x3] (.int (x + y) :: S) (h) P) : RQ G mX12_canJoin d 19 [x0, x1, x2, x3] (.int y :: .int x :: S) h P := q_iadd (M := mX12_canJoin) (pc := 19) dX12_canJoin_19 r
theorem tX12_canJoin_20 {a n j : Nat} {x : Int32} {f : Nat → Int32} (ha : At h a (.inl (0, n, .inl f))) (hx : x = nI j) (hj : j < n) (hn : n < 2147483648) (r : RQ G mX12_canJoin d 21 [x0, x1, x2, x3] (.int (f j) :: S) (h) P) : RQ G mX12_canJoin d 20 [x0, x1, x2, x3] (.int x :: .ref a :: S) h P := q_iald (M := mX12_canJoin) (pc := 20) dX12_canJoin_20 ha hx hj hn r
theorem tX12_canJoin_21 {v : Int32} (ho : ok1 x2 = true := by rfl) (r : RQ G mX12_canJoin d 22 [x0, x1, x2, some (.int v)] (S) (h) P) : RQ G mX12_canJoin d 21 [x0, x1, x2, x3] (.int v :: S) h P := q_istore_n (M := mX12_canJoin) (pc := 21) dX12_canJoin_21 rfl (Nat.le_of_ble_eq_true rfl) ho r
theorem tX12_canJoin_22 (r : RQ G mX12_canJoin d 2 [x0, x1, x2, x3] S h P) : RQ G mX12_canJoin d 22 [x0, x1, x2, x3] (S) h P := q_goto (M := mX12_canJoin) (pc := 22) dX12_canJoin_22 (by decide) r
theorem tX12_canJoin_25 {v : Int32} (r : RQ G mX12_canJoin d 26 [x0, x1, x2, some (.int v)] (.int v :: S) (h) P) : RQ G mX12_canJoin d 25 [x0, x1, x2, some (.int v)] (S) h P := q_iload_n (M := mX12_canJoin) (pc := 25) dX12_canJoin_25 rfl rfl r
theorem tX12_canJoin_26 (r : RQ G mX12_canJoin d 27 [x0, x1, x2, x3] (.int (-1) :: S) (h) P) : RQ G mX12_canJoin d 26 [x0, x1, x2, x3] (S) h P := q_iconst (M := mX12_canJoin) (pc := 26) dX12_canJoin_26 (by decide) r
theorem tX12_canJoin_27 {x y : Int32} (kt : ¬ x = y → RQ G mX12_canJoin d 34 [x0, x1, x2, x3] S h P) (kf : x = y → RQ G mX12_canJoin d 30 [x0, x1, x2, x3] S h P) : RQ G mX12_canJoin d 27 [x0, x1, x2, x3] (.int y :: .int x :: S) h P := q_icmp_ne (M := mX12_canJoin) (pc := 27) dX12_canJoin_27 (by decide) kt kf
theorem tX12_canJoin_30 (r : RQ G mX12_canJoin d 31 [x0, x1, x2, x3] (.int (nI 1) :: S) (h) P) : RQ G mX12_canJoin d 30 [x0, x1, x2, x3] (S) h P := q_iconst (M := mX12_canJoin) (pc := 30) dX12_canJoin_30 (by decide) r
theorem tX12_canJoin_31 (r : RQ G mX12_canJoin d 35 [x0, x1, x2, x3] S h P) : RQ G mX12_canJoin d 31 [x0, x1, x2, x3] (S) h P := q_goto (M := mX12_canJoin) (pc := 31) dX12_canJoin_31 (by decide) r
theorem tX12_canJoin_34 (r : RQ G mX12_canJoin d 35 [x0, x1, x2, x3] (.int (nI 0) :: S) (h) P) : RQ G mX12_canJoin d 34 [x0, x1, x2, x3] (S) h P := q_iconst (M := mX12_canJoin) (pc := 34) dX12_canJoin_34 (by decide) r
theorem tX12_canJoin_35 {x : Int32} (hb : x = nI 0 ∨ x = nI 1) (hP : P (.inl (some (.int x))) h) : RQ G mX12_canJoin d 35 [x0, x1, x2, x3] ([.int x]) h P := q_ireturn (M := mX12_canJoin) (pc := 35) (ty := .boolean) dX12_canJoin_35 rfl (nar_bool hb) hP
end T
theorem dX12_reckon_0 : decode cX12_reckon 0 = .ok (.aload_n 0, 1) := by decide +kernel
theorem dX12_reckon_1 : decode cX12_reckon 1 = .ok (.getfield 51, 3) := by decide +kernel
theorem dX12_reckon_4 : decode cX12_reckon 4 = .ok (.bipush 55, 2) := by decide +kernel
theorem dX12_reckon_6 : decode cX12_reckon 6 = .ok (.iload_n 1, 1) := by decide +kernel
theorem dX12_reckon_7 : decode cX12_reckon 7 = .ok (.iadd, 1) := by decide +kernel
theorem dX12_reckon_8 : decode cX12_reckon 8 = .ok (.iaload, 1) := by decide +kernel
theorem dX12_reckon_9 : decode cX12_reckon 9 = .ok (.istore 5, 2) := by decide +kernel
theorem dX12_reckon_11 : decode cX12_reckon 11 = .ok (.iload_n 2, 1) := by decide +kernel
theorem dX12_reckon_12 : decode cX12_reckon 12 = .ok (.tableswitch 229 2 31 #[167, 229, 229, 229, 229, 229, 229, 229, 229, 229, 229, 229, 229, 220, 229, 229, 173, 193, 138, 159, 145, 152, 229, 229, 229, 229, 229, 229, 229, 136], 136) := by decide +kernel
theorem dX12_reckon_148 : decode cX12_reckon 148 = .ok (.iload_n 3, 1) := by decide +kernel
theorem dX12_reckon_149 : decode cX12_reckon 149 = .ok (.ireturn, 1) := by decide +kernel
theorem dX12_reckon_150 : decode cX12_reckon 150 = .ok (.aload_n 0, 1) := by decide +kernel
theorem dX12_reckon_151 : decode cX12_reckon 151 = .ok (.getfield 51, 3) := by decide +kernel
theorem dX12_reckon_154 : decode cX12_reckon 154 = .ok (.iconst 0, 1) := by decide +kernel
theorem dX12_reckon_155 : decode cX12_reckon 155 = .ok (.iaload, 1) := by decide +kernel
theorem dX12_reckon_156 : decode cX12_reckon 156 = .ok (.ireturn, 1) := by decide +kernel
theorem dX12_reckon_157 : decode cX12_reckon 157 = .ok (.aload_n 0, 1) := by decide +kernel
theorem dX12_reckon_158 : decode cX12_reckon 158 = .ok (.iload 5, 2) := by decide +kernel
theorem dX12_reckon_160 : decode cX12_reckon 160 = .ok (.invokevirtual 351, 3) := by decide +kernel
theorem dX12_reckon_163 : decode cX12_reckon 163 = .ok (.ireturn, 1) := by decide +kernel
theorem dX12_reckon_164 : decode cX12_reckon 164 = .ok (.aload_n 0, 1) := by decide +kernel
theorem dX12_reckon_165 : decode cX12_reckon 165 = .ok (.iload 5, 2) := by decide +kernel
theorem dX12_reckon_167 : decode cX12_reckon 167 = .ok (.invokevirtual 339, 3) := by decide +kernel
theorem dX12_reckon_170 : decode cX12_reckon 170 = .ok (.ireturn, 1) := by decide +kernel
theorem dX12_reckon_171 : decode cX12_reckon 171 = .ok (.aload_n 0, 1) := by decide +kernel
theorem dX12_reckon_172 : decode cX12_reckon 172 = .ok (.iload 5, 2) := by decide +kernel
theorem dX12_reckon_174 : decode cX12_reckon 174 = .ok (.iload_n 3, 1) := by decide +kernel
theorem dX12_reckon_175 : decode cX12_reckon 175 = .ok (.invokevirtual 315, 3) := by decide +kernel
theorem dX12_reckon_178 : decode cX12_reckon 178 = .ok (.ireturn, 1) := by decide +kernel
theorem dX12_reckon_179 : decode cX12_reckon 179 = .ok (.aload_n 0, 1) := by decide +kernel
theorem dX12_reckon_180 : decode cX12_reckon 180 = .ok (.iload_n 3, 1) := by decide +kernel
theorem dX12_reckon_181 : decode cX12_reckon 181 = .ok (.invokevirtual 345, 3) := by decide +kernel
theorem dX12_reckon_184 : decode cX12_reckon 184 = .ok (.ireturn, 1) := by decide +kernel
theorem dX12_reckon_185 : decode cX12_reckon 185 = .ok (.aload_n 0, 1) := by decide +kernel
theorem dX12_reckon_186 : decode cX12_reckon 186 = .ok (.iload 5, 2) := by decide +kernel
theorem dX12_reckon_188 : decode cX12_reckon 188 = .ok (.invokevirtual 327, 3) := by decide +kernel
theorem dX12_reckon_191 : decode cX12_reckon 191 = .ok (.aload_n 0, 1) := by decide +kernel
theorem dX12_reckon_192 : decode cX12_reckon 192 = .ok (.iload_n 3, 1) := by decide +kernel
theorem dX12_reckon_193 : decode cX12_reckon 193 = .ok (.invokevirtual 318, 3) := by decide +kernel
theorem dX12_reckon_196 : decode cX12_reckon 196 = .ok (.if_icmp .ne 7, 3) := by decide +kernel
theorem dX12_reckon_199 : decode cX12_reckon 199 = .ok (.iconst 1, 1) := by decide +kernel
theorem dX12_reckon_200 : decode cX12_reckon 200 = .ok (.goto 4, 3) := by decide +kernel
theorem dX12_reckon_203 : decode cX12_reckon 203 = .ok (.iconst 0, 1) := by decide +kernel
theorem dX12_reckon_204 : decode cX12_reckon 204 = .ok (.ireturn, 1) := by decide +kernel
theorem dX12_reckon_205 : decode cX12_reckon 205 = .ok (.aload_n 0, 1) := by decide +kernel
theorem dX12_reckon_206 : decode cX12_reckon 206 = .ok (.iload_n 3, 1) := by decide +kernel
theorem dX12_reckon_207 : decode cX12_reckon 207 = .ok (.invokevirtual 318, 3) := by decide +kernel
theorem dX12_reckon_210 : decode cX12_reckon 210 = .ok (.aload_n 0, 1) := by decide +kernel
theorem dX12_reckon_211 : decode cX12_reckon 211 = .ok (.aload_n 0, 1) := by decide +kernel
theorem dX12_reckon_212 : decode cX12_reckon 212 = .ok (.getfield 41, 3) := by decide +kernel
theorem dX12_reckon_215 : decode cX12_reckon 215 = .ok (.getfield 278, 3) := by decide +kernel
theorem dX12_reckon_218 : decode cX12_reckon 218 = .ok (.iload_n 1, 1) := by decide +kernel
theorem dX12_reckon_219 : decode cX12_reckon 219 = .ok (.iaload, 1) := by decide +kernel
theorem dX12_reckon_220 : decode cX12_reckon 220 = .ok (.invokevirtual 318, 3) := by decide +kernel
theorem dX12_reckon_223 : decode cX12_reckon 223 = .ok (.if_icmp .ne 7, 3) := by decide +kernel
theorem dX12_reckon_226 : decode cX12_reckon 226 = .ok (.iconst 1, 1) := by decide +kernel
theorem dX12_reckon_227 : decode cX12_reckon 227 = .ok (.goto 4, 3) := by decide +kernel
theorem dX12_reckon_230 : decode cX12_reckon 230 = .ok (.iconst 0, 1) := by decide +kernel
theorem dX12_reckon_231 : decode cX12_reckon 231 = .ok (.ireturn, 1) := by decide +kernel
theorem dX12_reckon_232 : decode cX12_reckon 232 = .ok (.iconst 1, 1) := by decide +kernel
theorem dX12_reckon_233 : decode cX12_reckon 233 = .ok (.aload_n 0, 1) := by decide +kernel
theorem dX12_reckon_234 : decode cX12_reckon 234 = .ok (.getfield 48, 3) := by decide +kernel
theorem dX12_reckon_237 : decode cX12_reckon 237 = .ok (.iload_n 3, 1) := by decide +kernel
theorem dX12_reckon_238 : decode cX12_reckon 238 = .ok (.iaload, 1) := by decide +kernel
theorem dX12_reckon_239 : decode cX12_reckon 239 = .ok (.isub, 1) := by decide +kernel
theorem dX12_reckon_240 : decode cX12_reckon 240 = .ok (.ireturn, 1) := by decide +kernel
theorem dX12_reckon_241 : decode cX12_reckon 241 = .ok (.iload_n 2, 1) := by decide +kernel
theorem dX12_reckon_242 : decode cX12_reckon 242 = .ok (.aload_n 0, 1) := by decide +kernel
theorem dX12_reckon_243 : decode cX12_reckon 243 = .ok (.getfield 48, 3) := by decide +kernel
theorem dX12_reckon_246 : decode cX12_reckon 246 = .ok (.iload_n 3, 1) := by decide +kernel
theorem dX12_reckon_247 : decode cX12_reckon 247 = .ok (.iaload, 1) := by decide +kernel
theorem dX12_reckon_248 : decode cX12_reckon 248 = .ok (.aload_n 0, 1) := by decide +kernel
theorem dX12_reckon_249 : decode cX12_reckon 249 = .ok (.getfield 48, 3) := by decide +kernel
theorem dX12_reckon_252 : decode cX12_reckon 252 = .ok (.iload 4, 2) := by decide +kernel
theorem dX12_reckon_254 : decode cX12_reckon 254 = .ok (.iaload, 1) := by decide +kernel
theorem dX12_reckon_255 : decode cX12_reckon 255 = .ok (.invokestatic 354, 3) := by decide +kernel
theorem dX12_reckon_258 : decode cX12_reckon 258 = .ok (.ireturn, 1) := by decide +kernel
section T
variable {G : GT} {d : Nat} {S : List Value} {h : AH} {P : OC → AH → Prop} {x0 x1 x2 x3 x4 x5 x6 x7 x8 x9 x10 x11 x12 x13 x14 x15 : Option Value}
theorem tX12_reckon_0 {k : Nat} (r : RQ G mX12_reckon d 1 [some (.ref k), x1, x2, x3, x4, x5] (.ref k :: S) (h) P) : RQ G mX12_reckon d 0 [some (.ref k), x1, x2, x3, x4, x5] (S) h P := q_aload_n (M := mX12_reckon) (pc := 0) (r0 := some k) dX12_reckon_0 rfl rfl r
theorem tX12_reckon_1 {i : Nat} {vs : List Value} {v : Value} (ha : At h i (.inr (10, vs))) (hv : vs[20]? = some v) (r : RQ G mX12_reckon d 4 [x0, x1, x2, x3, x4, x5] (v :: S) (h) P) : RQ G mX12_reckon d 1 [x0, x1, x2, x3, x4, x5] (.ref i :: S) h P := q_get (M := mX12_reckon) (pc := 1) (kf := 20) dX12_reckon_1 (show CL[10]? = some (RX12, TX12, 25) from rfl) inA12 (by decide) rfl w1443 ha hv r
theorem tX12_reckon_4 (r : RQ G mX12_reckon d 6 [x0, x1, x2, x3, x4, x5] (.int (nI 55) :: S) (h) P) : RQ G mX12_reckon d 4 [x0, x1, x2, x3, x4, x5] (S) h P := q_bipush (M := mX12_reckon) (pc := 4) dX12_reckon_4 (by decide) r
theorem tX12_reckon_6 {v : Int32} (r : RQ G mX12_reckon d 7 [x0, some (.int v), x2, x3, x4, x5] (.int v :: S) (h) P) : RQ G mX12_reckon d 6 [x0, some (.int v), x2, x3, x4, x5] (S) h P := q_iload_n (M := mX12_reckon) (pc := 6) dX12_reckon_6 rfl rfl r
theorem tX12_reckon_7 {x y : Int32} (r : RQ G mX12_reckon d 8 [x0, x1, x2, x3, x4, x5] (.int (x + y) :: S) (h) P) : RQ G mX12_reckon d 7 [x0, x1, x2, x3, x4, x5] (.int y :: .int x :: S) h P := q_iadd (M := mX12_reckon) (pc := 7) dX12_reckon_7 r
theorem tX12_reckon_8 {a n j : Nat} {x : Int32} {f : Nat → Int32} (ha : At h a (.inl (0, n, .inl f))) (hx : x = nI j) (hj : j < n) (hn : n < 2147483648) (r : RQ G mX12_reckon d 9 [x0, x1, x2, x3, x4, x5] (.int (f j) :: S) (h) P) : RQ G mX12_reckon d 8 [x0, x1, x2, x3, x4, x5] (.int x :: .ref a :: S) h P := q_iald (M := mX12_reckon) (pc := 8) dX12_reckon_8 ha hx hj hn r
theorem tX12_reckon_9 {v : Int32} (ho : ok1 x4 = true := by rfl) (r : RQ G mX12_reckon d 11 [x0, x1, x2, x3, x4, some (.int v)] (S) (h) P) : RQ G mX12_reckon d 9 [x0, x1, x2, x3, x4, x5] (.int v :: S) h P := q_istore (M := mX12_reckon) (pc := 9) dX12_reckon_9 (Nat.le_of_ble_eq_true rfl) ho r
theorem tX12_reckon_11 {v : Int32} (r : RQ G mX12_reckon d 12 [x0, x1, some (.int v), x3, x4, x5] (.int v :: S) (h) P) : RQ G mX12_reckon d 11 [x0, x1, some (.int v), x3, x4, x5] (S) h P := q_iload_n (M := mX12_reckon) (pc := 11) dX12_reckon_11 rfl rfl r
theorem tX12_reckon_148 {v : Int32} (r : RQ G mX12_reckon d 149 [x0, x1, x2, some (.int v), x4, x5] (.int v :: S) (h) P) : RQ G mX12_reckon d 148 [x0, x1, x2, some (.int v), x4, x5] (S) h P := q_iload_n (M := mX12_reckon) (pc := 148) dX12_reckon_148 rfl rfl r
theorem tX12_reckon_149 {x : Int32} (hP : P (.inl (some (.int x))) h) : RQ G mX12_reckon d 149 [x0, x1, x2, x3, x4, x5] ([.int x]) h P := q_ireturn (M := mX12_reckon) (pc := 149) (ty := .int) dX12_reckon_149 rfl rfl hP
theorem tX12_reckon_150 {k : Nat} (r : RQ G mX12_reckon d 151 [some (.ref k), x1, x2, x3, x4, x5] (.ref k :: S) (h) P) : RQ G mX12_reckon d 150 [some (.ref k), x1, x2, x3, x4, x5] (S) h P := q_aload_n (M := mX12_reckon) (pc := 150) (r0 := some k) dX12_reckon_150 rfl rfl r
theorem tX12_reckon_151 {i : Nat} {vs : List Value} {v : Value} (ha : At h i (.inr (10, vs))) (hv : vs[20]? = some v) (r : RQ G mX12_reckon d 154 [x0, x1, x2, x3, x4, x5] (v :: S) (h) P) : RQ G mX12_reckon d 151 [x0, x1, x2, x3, x4, x5] (.ref i :: S) h P := q_get (M := mX12_reckon) (pc := 151) (kf := 20) dX12_reckon_151 (show CL[10]? = some (RX12, TX12, 25) from rfl) inA12 (by decide) rfl w1443 ha hv r
theorem tX12_reckon_154 (r : RQ G mX12_reckon d 155 [x0, x1, x2, x3, x4, x5] (.int (nI 0) :: S) (h) P) : RQ G mX12_reckon d 154 [x0, x1, x2, x3, x4, x5] (S) h P := q_iconst (M := mX12_reckon) (pc := 154) dX12_reckon_154 (by decide) r
theorem tX12_reckon_155 {a n j : Nat} {x : Int32} {f : Nat → Int32} (ha : At h a (.inl (0, n, .inl f))) (hx : x = nI j) (hj : j < n) (hn : n < 2147483648) (r : RQ G mX12_reckon d 156 [x0, x1, x2, x3, x4, x5] (.int (f j) :: S) (h) P) : RQ G mX12_reckon d 155 [x0, x1, x2, x3, x4, x5] (.int x :: .ref a :: S) h P := q_iald (M := mX12_reckon) (pc := 155) dX12_reckon_155 ha hx hj hn r
theorem tX12_reckon_156 {x : Int32} (hP : P (.inl (some (.int x))) h) : RQ G mX12_reckon d 156 [x0, x1, x2, x3, x4, x5] ([.int x]) h P := q_ireturn (M := mX12_reckon) (pc := 156) (ty := .int) dX12_reckon_156 rfl rfl hP
theorem tX12_reckon_157 {k : Nat} (r : RQ G mX12_reckon d 158 [some (.ref k), x1, x2, x3, x4, x5] (.ref k :: S) (h) P) : RQ G mX12_reckon d 157 [some (.ref k), x1, x2, x3, x4, x5] (S) h P := q_aload_n (M := mX12_reckon) (pc := 157) (r0 := some k) dX12_reckon_157 rfl rfl r
theorem tX12_reckon_158 {v : Int32} (r : RQ G mX12_reckon d 160 [x0, x1, x2, x3, x4, some (.int v)] (.int v :: S) (h) P) : RQ G mX12_reckon d 158 [x0, x1, x2, x3, x4, some (.int v)] (S) h P := q_iload (M := mX12_reckon) (pc := 158) dX12_reckon_158 rfl r
theorem tX12_reckon_160 {b d2 : Nat} {vs : List Value} {a0 : Int32} {Q : Int32 → AH → Prop} (hd : d2 + 1 ≤ d) (ha : At h b (.inr (10, vs))) (call : RQ G mX12_margin d2 0 [some (.ref b), some (.int a0), none, none, none] [] h (Ri Q)) (k : ∀ x h1, Q x h1 → RQ G mX12_reckon d 163 [x0, x1, x2, x3, x4, x5] (.int x :: S) h1 P) (hst : (S.map fun v => v.category).sum ≤ 8 := by exact Nat.le_of_ble_eq_true rfl)  : RQ G mX12_reckon d 160 [x0, x1, x2, x3, x4, x5] (.int a0 :: .ref b :: S) h P := q_callV (M := mX12_reckon) (pc := 160) (M2 := mX12_margin) (As := [.int a0]) (n := 1) dX12_reckon_160 rfl ⟨by decide, by decide, by decide, rfl⟩ rfl w1772 w1774 w84 w120 w1775 (show CL[10]? = some (RX12, TX12, 25) from rfl) hd (by decide) (Nat.le_of_ble_eq_true rfl) rfl ha hst call (callk_i k)
theorem tX12_reckon_163 {x : Int32} (hP : P (.inl (some (.int x))) h) : RQ G mX12_reckon d 163 [x0, x1, x2, x3, x4, x5] ([.int x]) h P := q_ireturn (M := mX12_reckon) (pc := 163) (ty := .int) dX12_reckon_163 rfl rfl hP
theorem tX12_reckon_164 {k : Nat} (r : RQ G mX12_reckon d 165 [some (.ref k), x1, x2, x3, x4, x5] (.ref k :: S) (h) P) : RQ G mX12_reckon d 164 [some (.ref k), x1, x2, x3, x4, x5] (S) h P := q_aload_n (M := mX12_reckon) (pc := 164) (r0 := some k) dX12_reckon_164 rfl rfl r
theorem tX12_reckon_165 {v : Int32} (r : RQ G mX12_reckon d 167 [x0, x1, x2, x3, x4, some (.int v)] (.int v :: S) (h) P) : RQ G mX12_reckon d 165 [x0, x1, x2, x3, x4, some (.int v)] (S) h P := q_iload (M := mX12_reckon) (pc := 165) dX12_reckon_165 rfl r
theorem tX12_reckon_167 {b d2 : Nat} {vs : List Value} {a0 : Int32} {Q : Int32 → AH → Prop} (hd : d2 + 1 ≤ d) (ha : At h b (.inr (10, vs))) (call : RQ G mX12_all d2 0 [some (.ref b), some (.int a0), none, none] [] h (Ri Q)) (k : ∀ x h1, Q x h1 → RQ G mX12_reckon d 170 [x0, x1, x2, x3, x4, x5] (.int x :: S) h1 P) (hst : (S.map fun v => v.category).sum ≤ 8 := by exact Nat.le_of_ble_eq_true rfl)  : RQ G mX12_reckon d 167 [x0, x1, x2, x3, x4, x5] (.int a0 :: .ref b :: S) h P := q_callV (M := mX12_reckon) (pc := 167) (M2 := mX12_all) (As := [.int a0]) (n := 1) dX12_reckon_167 rfl ⟨by decide, by decide, by decide, rfl⟩ rfl w1732 w1734 w79 w120 w1735 (show CL[10]? = some (RX12, TX12, 25) from rfl) hd (by decide) (Nat.le_of_ble_eq_true rfl) rfl ha hst call (callk_i k)
theorem tX12_reckon_170 {x : Int32} (hP : P (.inl (some (.int x))) h) : RQ G mX12_reckon d 170 [x0, x1, x2, x3, x4, x5] ([.int x]) h P := q_ireturn (M := mX12_reckon) (pc := 170) (ty := .int) dX12_reckon_170 rfl rfl hP
theorem tX12_reckon_171 {k : Nat} (r : RQ G mX12_reckon d 172 [some (.ref k), x1, x2, x3, x4, x5] (.ref k :: S) (h) P) : RQ G mX12_reckon d 171 [some (.ref k), x1, x2, x3, x4, x5] (S) h P := q_aload_n (M := mX12_reckon) (pc := 171) (r0 := some k) dX12_reckon_171 rfl rfl r
theorem tX12_reckon_172 {v : Int32} (r : RQ G mX12_reckon d 174 [x0, x1, x2, x3, x4, some (.int v)] (.int v :: S) (h) P) : RQ G mX12_reckon d 172 [x0, x1, x2, x3, x4, some (.int v)] (S) h P := q_iload (M := mX12_reckon) (pc := 172) dX12_reckon_172 rfl r
theorem tX12_reckon_174 {v : Int32} (r : RQ G mX12_reckon d 175 [x0, x1, x2, some (.int v), x4, x5] (.int v :: S) (h) P) : RQ G mX12_reckon d 174 [x0, x1, x2, some (.int v), x4, x5] (S) h P := q_iload_n (M := mX12_reckon) (pc := 174) dX12_reckon_174 rfl rfl r
theorem tX12_reckon_175 {b d2 : Nat} {vs : List Value} {a0 : Int32} {a1 : Int32} {Q : Int32 → AH → Prop} (hd : d2 + 1 ≤ d) (ha : At h b (.inr (10, vs))) (call : RQ G mX12_held d2 0 [some (.ref b), some (.int a0), some (.int a1)] [] h (Ri Q)) (k : ∀ x h1, Q x h1 → RQ G mX12_reckon d 178 [x0, x1, x2, x3, x4, x5] (.int x :: S) h1 P) (hst : (S.map fun v => v.category).sum ≤ 8 := by exact Nat.le_of_ble_eq_true rfl)  : RQ G mX12_reckon d 175 [x0, x1, x2, x3, x4, x5] (.int a1 :: .int a0 :: .ref b :: S) h P := q_callV (M := mX12_reckon) (pc := 175) (M2 := mX12_held) (As := [.int a0, .int a1]) (n := 2) dX12_reckon_175 rfl ⟨by decide, by decide, by decide, rfl⟩ rfl w1716 w1718 w77 w120 w1719 (show CL[10]? = some (RX12, TX12, 25) from rfl) hd (by decide) (Nat.le_of_ble_eq_true rfl) rfl ha hst call (callk_i k)
theorem tX12_reckon_178 {x : Int32} (hP : P (.inl (some (.int x))) h) : RQ G mX12_reckon d 178 [x0, x1, x2, x3, x4, x5] ([.int x]) h P := q_ireturn (M := mX12_reckon) (pc := 178) (ty := .int) dX12_reckon_178 rfl rfl hP
theorem tX12_reckon_179 {k : Nat} (r : RQ G mX12_reckon d 180 [some (.ref k), x1, x2, x3, x4, x5] (.ref k :: S) (h) P) : RQ G mX12_reckon d 179 [some (.ref k), x1, x2, x3, x4, x5] (S) h P := q_aload_n (M := mX12_reckon) (pc := 179) (r0 := some k) dX12_reckon_179 rfl rfl r
theorem tX12_reckon_180 {v : Int32} (r : RQ G mX12_reckon d 181 [x0, x1, x2, some (.int v), x4, x5] (.int v :: S) (h) P) : RQ G mX12_reckon d 180 [x0, x1, x2, some (.int v), x4, x5] (S) h P := q_iload_n (M := mX12_reckon) (pc := 180) dX12_reckon_180 rfl rfl r
theorem tX12_reckon_181 {b d2 : Nat} {vs : List Value} {a0 : Int32} {Q : Int32 → AH → Prop} (hd : d2 + 1 ≤ d) (ha : At h b (.inr (10, vs))) (call : RQ G mX12_seatsInAllOf d2 0 [some (.ref b), some (.int a0), none, none, none] [] h (Ri Q)) (k : ∀ x h1, Q x h1 → RQ G mX12_reckon d 184 [x0, x1, x2, x3, x4, x5] (.int x :: S) h1 P) (hst : (S.map fun v => v.category).sum ≤ 8 := by exact Nat.le_of_ble_eq_true rfl)  : RQ G mX12_reckon d 181 [x0, x1, x2, x3, x4, x5] (.int a0 :: .ref b :: S) h P := q_callV (M := mX12_reckon) (pc := 181) (M2 := mX12_seatsInAllOf) (As := [.int a0]) (n := 1) dX12_reckon_181 rfl ⟨by decide, by decide, by decide, rfl⟩ rfl w1809 w1811 w89 w120 w1812 (show CL[10]? = some (RX12, TX12, 25) from rfl) hd (by decide) (Nat.le_of_ble_eq_true rfl) rfl ha hst call (callk_i k)
theorem tX12_reckon_184 {x : Int32} (hP : P (.inl (some (.int x))) h) : RQ G mX12_reckon d 184 [x0, x1, x2, x3, x4, x5] ([.int x]) h P := q_ireturn (M := mX12_reckon) (pc := 184) (ty := .int) dX12_reckon_184 rfl rfl hP
theorem tX12_reckon_185 {k : Nat} (r : RQ G mX12_reckon d 186 [some (.ref k), x1, x2, x3, x4, x5] (.ref k :: S) (h) P) : RQ G mX12_reckon d 185 [some (.ref k), x1, x2, x3, x4, x5] (S) h P := q_aload_n (M := mX12_reckon) (pc := 185) (r0 := some k) dX12_reckon_185 rfl rfl r
theorem tX12_reckon_186 {v : Int32} (r : RQ G mX12_reckon d 188 [x0, x1, x2, x3, x4, some (.int v)] (.int v :: S) (h) P) : RQ G mX12_reckon d 186 [x0, x1, x2, x3, x4, some (.int v)] (S) h P := q_iload (M := mX12_reckon) (pc := 186) dX12_reckon_186 rfl r
theorem tX12_reckon_188 {b d2 : Nat} {vs : List Value} {a0 : Int32} {Q : Int32 → AH → Prop} (hd : d2 + 1 ≤ d) (ha : At h b (.inr (10, vs))) (call : RQ G mX12_firstHere d2 0 [some (.ref b), some (.int a0)] [] h (Ri Q)) (k : ∀ x h1, Q x h1 → RQ G mX12_reckon d 191 [x0, x1, x2, x3, x4, x5] (.int x :: S) h1 P) (hst : (S.map fun v => v.category).sum ≤ 8 := by exact Nat.le_of_ble_eq_true rfl)  : RQ G mX12_reckon d 188 [x0, x1, x2, x3, x4, x5] (.int a0 :: .ref b :: S) h P := q_callV (M := mX12_reckon) (pc := 188) (M2 := mX12_firstHere) (As := [.int a0]) (n := 1) dX12_reckon_188 rfl ⟨by decide, by decide, by decide, rfl⟩ rfl w1756 w1758 w81 w120 w1759 (show CL[10]? = some (RX12, TX12, 25) from rfl) hd (by decide) (Nat.le_of_ble_eq_true rfl) rfl ha hst call (callk_i k)
theorem tX12_reckon_191 {k : Nat} (r : RQ G mX12_reckon d 192 [some (.ref k), x1, x2, x3, x4, x5] (.ref k :: S) (h) P) : RQ G mX12_reckon d 191 [some (.ref k), x1, x2, x3, x4, x5] (S) h P := q_aload_n (M := mX12_reckon) (pc := 191) (r0 := some k) dX12_reckon_191 rfl rfl r
theorem tX12_reckon_192 {v : Int32} (r : RQ G mX12_reckon d 193 [x0, x1, x2, some (.int v), x4, x5] (.int v :: S) (h) P) : RQ G mX12_reckon d 192 [x0, x1, x2, some (.int v), x4, x5] (S) h P := q_iload_n (M := mX12_reckon) (pc := 192) dX12_reckon_192 rfl rfl r
theorem tX12_reckon_193 {b d2 : Nat} {vs : List Value} {a0 : Int32} {Q : Int32 → AH → Prop} (hd : d2 + 1 ≤ d) (ha : At h b (.inr (10, vs))) (call : RQ G mX12_leader d2 0 [some (.ref b), some (.int a0), none] [] h (Ri Q)) (k : ∀ x h1, Q x h1 → RQ G mX12_reckon d 196 [x0, x1, x2, x3, x4, x5] (.int x :: S) h1 P) (hst : (S.map fun v => v.category).sum ≤ 8 := by exact Nat.le_of_ble_eq_true rfl)  : RQ G mX12_reckon d 193 [x0, x1, x2, x3, x4, x5] (.int a0 :: .ref b :: S) h P := q_callV (M := mX12_reckon) (pc := 193) (M2 := mX12_leader) (As := [.int a0]) (n := 1) dX12_reckon_193 rfl ⟨by decide, by decide, by decide, rfl⟩ rfl w1744 w1746 w80 w120 w1747 (show CL[10]? = some (RX12, TX12, 25) from rfl) hd (by decide) (Nat.le_of_ble_eq_true rfl) rfl ha hst call (callk_i k)
theorem tX12_reckon_196 {x y : Int32} (kt : ¬ x = y → RQ G mX12_reckon d 203 [x0, x1, x2, x3, x4, x5] S h P) (kf : x = y → RQ G mX12_reckon d 199 [x0, x1, x2, x3, x4, x5] S h P) : RQ G mX12_reckon d 196 [x0, x1, x2, x3, x4, x5] (.int y :: .int x :: S) h P := q_icmp_ne (M := mX12_reckon) (pc := 196) dX12_reckon_196 (by decide) kt kf
theorem tX12_reckon_199 (r : RQ G mX12_reckon d 200 [x0, x1, x2, x3, x4, x5] (.int (nI 1) :: S) (h) P) : RQ G mX12_reckon d 199 [x0, x1, x2, x3, x4, x5] (S) h P := q_iconst (M := mX12_reckon) (pc := 199) dX12_reckon_199 (by decide) r
theorem tX12_reckon_200 (r : RQ G mX12_reckon d 204 [x0, x1, x2, x3, x4, x5] S h P) : RQ G mX12_reckon d 200 [x0, x1, x2, x3, x4, x5] (S) h P := q_goto (M := mX12_reckon) (pc := 200) dX12_reckon_200 (by decide) r
theorem tX12_reckon_203 (r : RQ G mX12_reckon d 204 [x0, x1, x2, x3, x4, x5] (.int (nI 0) :: S) (h) P) : RQ G mX12_reckon d 203 [x0, x1, x2, x3, x4, x5] (S) h P := q_iconst (M := mX12_reckon) (pc := 203) dX12_reckon_203 (by decide) r
theorem tX12_reckon_204 {x : Int32} (hP : P (.inl (some (.int x))) h) : RQ G mX12_reckon d 204 [x0, x1, x2, x3, x4, x5] ([.int x]) h P := q_ireturn (M := mX12_reckon) (pc := 204) (ty := .int) dX12_reckon_204 rfl rfl hP
theorem tX12_reckon_205 {k : Nat} (r : RQ G mX12_reckon d 206 [some (.ref k), x1, x2, x3, x4, x5] (.ref k :: S) (h) P) : RQ G mX12_reckon d 205 [some (.ref k), x1, x2, x3, x4, x5] (S) h P := q_aload_n (M := mX12_reckon) (pc := 205) (r0 := some k) dX12_reckon_205 rfl rfl r
theorem tX12_reckon_206 {v : Int32} (r : RQ G mX12_reckon d 207 [x0, x1, x2, some (.int v), x4, x5] (.int v :: S) (h) P) : RQ G mX12_reckon d 206 [x0, x1, x2, some (.int v), x4, x5] (S) h P := q_iload_n (M := mX12_reckon) (pc := 206) dX12_reckon_206 rfl rfl r
theorem tX12_reckon_207 {b d2 : Nat} {vs : List Value} {a0 : Int32} {Q : Int32 → AH → Prop} (hd : d2 + 1 ≤ d) (ha : At h b (.inr (10, vs))) (call : RQ G mX12_leader d2 0 [some (.ref b), some (.int a0), none] [] h (Ri Q)) (k : ∀ x h1, Q x h1 → RQ G mX12_reckon d 210 [x0, x1, x2, x3, x4, x5] (.int x :: S) h1 P) (hst : (S.map fun v => v.category).sum ≤ 8 := by exact Nat.le_of_ble_eq_true rfl)  : RQ G mX12_reckon d 207 [x0, x1, x2, x3, x4, x5] (.int a0 :: .ref b :: S) h P := q_callV (M := mX12_reckon) (pc := 207) (M2 := mX12_leader) (As := [.int a0]) (n := 1) dX12_reckon_207 rfl ⟨by decide, by decide, by decide, rfl⟩ rfl w1744 w1746 w80 w120 w1747 (show CL[10]? = some (RX12, TX12, 25) from rfl) hd (by decide) (Nat.le_of_ble_eq_true rfl) rfl ha hst call (callk_i k)
theorem tX12_reckon_210 {k : Nat} (r : RQ G mX12_reckon d 211 [some (.ref k), x1, x2, x3, x4, x5] (.ref k :: S) (h) P) : RQ G mX12_reckon d 210 [some (.ref k), x1, x2, x3, x4, x5] (S) h P := q_aload_n (M := mX12_reckon) (pc := 210) (r0 := some k) dX12_reckon_210 rfl rfl r
theorem tX12_reckon_211 {k : Nat} (r : RQ G mX12_reckon d 212 [some (.ref k), x1, x2, x3, x4, x5] (.ref k :: S) (h) P) : RQ G mX12_reckon d 211 [some (.ref k), x1, x2, x3, x4, x5] (S) h P := q_aload_n (M := mX12_reckon) (pc := 211) (r0 := some k) dX12_reckon_211 rfl rfl r
theorem tX12_reckon_212 {i : Nat} {vs : List Value} {v : Value} (ha : At h i (.inr (10, vs))) (hv : vs[17]? = some v) (r : RQ G mX12_reckon d 215 [x0, x1, x2, x3, x4, x5] (v :: S) (h) P) : RQ G mX12_reckon d 212 [x0, x1, x2, x3, x4, x5] (.ref i :: S) h P := q_get (M := mX12_reckon) (pc := 212) (kf := 17) dX12_reckon_212 (show CL[10]? = some (RX12, TX12, 25) from rfl) inA12 (by decide) rfl w1440 ha hv r
theorem tX12_reckon_215 {i : Nat} {vs : List Value} {v : Value} (ha : At h i (.inr (9, vs))) (hv : vs[7]? = some v) (r : RQ G mX12_reckon d 218 [x0, x1, x2, x3, x4, x5] (v :: S) (h) P) : RQ G mX12_reckon d 215 [x0, x1, x2, x3, x4, x5] (.ref i :: S) h P := q_getN (M := mX12_reckon) (pc := 215) (kf := 7) dX12_reckon_215 (show CL[9]? = some (RX11, TX11, 24) from rfl) inA11 (by decide) rfl v1334 ha hv r
theorem tX12_reckon_218 {v : Int32} (r : RQ G mX12_reckon d 219 [x0, some (.int v), x2, x3, x4, x5] (.int v :: S) (h) P) : RQ G mX12_reckon d 218 [x0, some (.int v), x2, x3, x4, x5] (S) h P := q_iload_n (M := mX12_reckon) (pc := 218) dX12_reckon_218 rfl rfl r
theorem tX12_reckon_219 {a n j : Nat} {x : Int32} {f : Nat → Int32} (ha : At h a (.inl (0, n, .inl f))) (hx : x = nI j) (hj : j < n) (hn : n < 2147483648) (r : RQ G mX12_reckon d 220 [x0, x1, x2, x3, x4, x5] (.int (f j) :: S) (h) P) : RQ G mX12_reckon d 219 [x0, x1, x2, x3, x4, x5] (.int x :: .ref a :: S) h P := q_iald (M := mX12_reckon) (pc := 219) dX12_reckon_219 ha hx hj hn r
theorem tX12_reckon_220 {b d2 : Nat} {vs : List Value} {a0 : Int32} {Q : Int32 → AH → Prop} (hd : d2 + 1 ≤ d) (ha : At h b (.inr (10, vs))) (call : RQ G mX12_leader d2 0 [some (.ref b), some (.int a0), none] [] h (Ri Q)) (k : ∀ x h1, Q x h1 → RQ G mX12_reckon d 223 [x0, x1, x2, x3, x4, x5] (.int x :: S) h1 P) (hst : (S.map fun v => v.category).sum ≤ 8 := by exact Nat.le_of_ble_eq_true rfl)  : RQ G mX12_reckon d 220 [x0, x1, x2, x3, x4, x5] (.int a0 :: .ref b :: S) h P := q_callV (M := mX12_reckon) (pc := 220) (M2 := mX12_leader) (As := [.int a0]) (n := 1) dX12_reckon_220 rfl ⟨by decide, by decide, by decide, rfl⟩ rfl w1744 w1746 w80 w120 w1747 (show CL[10]? = some (RX12, TX12, 25) from rfl) hd (by decide) (Nat.le_of_ble_eq_true rfl) rfl ha hst call (callk_i k)
theorem tX12_reckon_223 {x y : Int32} (kt : ¬ x = y → RQ G mX12_reckon d 230 [x0, x1, x2, x3, x4, x5] S h P) (kf : x = y → RQ G mX12_reckon d 226 [x0, x1, x2, x3, x4, x5] S h P) : RQ G mX12_reckon d 223 [x0, x1, x2, x3, x4, x5] (.int y :: .int x :: S) h P := q_icmp_ne (M := mX12_reckon) (pc := 223) dX12_reckon_223 (by decide) kt kf
theorem tX12_reckon_226 (r : RQ G mX12_reckon d 227 [x0, x1, x2, x3, x4, x5] (.int (nI 1) :: S) (h) P) : RQ G mX12_reckon d 226 [x0, x1, x2, x3, x4, x5] (S) h P := q_iconst (M := mX12_reckon) (pc := 226) dX12_reckon_226 (by decide) r
theorem tX12_reckon_227 (r : RQ G mX12_reckon d 231 [x0, x1, x2, x3, x4, x5] S h P) : RQ G mX12_reckon d 227 [x0, x1, x2, x3, x4, x5] (S) h P := q_goto (M := mX12_reckon) (pc := 227) dX12_reckon_227 (by decide) r
theorem tX12_reckon_230 (r : RQ G mX12_reckon d 231 [x0, x1, x2, x3, x4, x5] (.int (nI 0) :: S) (h) P) : RQ G mX12_reckon d 230 [x0, x1, x2, x3, x4, x5] (S) h P := q_iconst (M := mX12_reckon) (pc := 230) dX12_reckon_230 (by decide) r
theorem tX12_reckon_231 {x : Int32} (hP : P (.inl (some (.int x))) h) : RQ G mX12_reckon d 231 [x0, x1, x2, x3, x4, x5] ([.int x]) h P := q_ireturn (M := mX12_reckon) (pc := 231) (ty := .int) dX12_reckon_231 rfl rfl hP
theorem tX12_reckon_232 (r : RQ G mX12_reckon d 233 [x0, x1, x2, x3, x4, x5] (.int (nI 1) :: S) (h) P) : RQ G mX12_reckon d 232 [x0, x1, x2, x3, x4, x5] (S) h P := q_iconst (M := mX12_reckon) (pc := 232) dX12_reckon_232 (by decide) r
theorem tX12_reckon_233 {k : Nat} (r : RQ G mX12_reckon d 234 [some (.ref k), x1, x2, x3, x4, x5] (.ref k :: S) (h) P) : RQ G mX12_reckon d 233 [some (.ref k), x1, x2, x3, x4, x5] (S) h P := q_aload_n (M := mX12_reckon) (pc := 233) (r0 := some k) dX12_reckon_233 rfl rfl r
theorem tX12_reckon_234 {i : Nat} {vs : List Value} {v : Value} (ha : At h i (.inr (10, vs))) (hv : vs[19]? = some v) (r : RQ G mX12_reckon d 237 [x0, x1, x2, x3, x4, x5] (v :: S) (h) P) : RQ G mX12_reckon d 234 [x0, x1, x2, x3, x4, x5] (.ref i :: S) h P := q_get (M := mX12_reckon) (pc := 234) (kf := 19) dX12_reckon_234 (show CL[10]? = some (RX12, TX12, 25) from rfl) inA12 (by decide) rfl w1442 ha hv r
theorem tX12_reckon_237 {v : Int32} (r : RQ G mX12_reckon d 238 [x0, x1, x2, some (.int v), x4, x5] (.int v :: S) (h) P) : RQ G mX12_reckon d 237 [x0, x1, x2, some (.int v), x4, x5] (S) h P := q_iload_n (M := mX12_reckon) (pc := 237) dX12_reckon_237 rfl rfl r
theorem tX12_reckon_238 {a n j : Nat} {x : Int32} {f : Nat → Int32} (ha : At h a (.inl (0, n, .inl f))) (hx : x = nI j) (hj : j < n) (hn : n < 2147483648) (r : RQ G mX12_reckon d 239 [x0, x1, x2, x3, x4, x5] (.int (f j) :: S) (h) P) : RQ G mX12_reckon d 238 [x0, x1, x2, x3, x4, x5] (.int x :: .ref a :: S) h P := q_iald (M := mX12_reckon) (pc := 238) dX12_reckon_238 ha hx hj hn r
theorem tX12_reckon_239 {x y : Int32} (r : RQ G mX12_reckon d 240 [x0, x1, x2, x3, x4, x5] (.int (x - y) :: S) (h) P) : RQ G mX12_reckon d 239 [x0, x1, x2, x3, x4, x5] (.int y :: .int x :: S) h P := q_isub (M := mX12_reckon) (pc := 239) dX12_reckon_239 r
theorem tX12_reckon_240 {x : Int32} (hP : P (.inl (some (.int x))) h) : RQ G mX12_reckon d 240 [x0, x1, x2, x3, x4, x5] ([.int x]) h P := q_ireturn (M := mX12_reckon) (pc := 240) (ty := .int) dX12_reckon_240 rfl rfl hP
theorem tX12_reckon_241 {v : Int32} (r : RQ G mX12_reckon d 242 [x0, x1, some (.int v), x3, x4, x5] (.int v :: S) (h) P) : RQ G mX12_reckon d 241 [x0, x1, some (.int v), x3, x4, x5] (S) h P := q_iload_n (M := mX12_reckon) (pc := 241) dX12_reckon_241 rfl rfl r
theorem tX12_reckon_242 {k : Nat} (r : RQ G mX12_reckon d 243 [some (.ref k), x1, x2, x3, x4, x5] (.ref k :: S) (h) P) : RQ G mX12_reckon d 242 [some (.ref k), x1, x2, x3, x4, x5] (S) h P := q_aload_n (M := mX12_reckon) (pc := 242) (r0 := some k) dX12_reckon_242 rfl rfl r
theorem tX12_reckon_243 {i : Nat} {vs : List Value} {v : Value} (ha : At h i (.inr (10, vs))) (hv : vs[19]? = some v) (r : RQ G mX12_reckon d 246 [x0, x1, x2, x3, x4, x5] (v :: S) (h) P) : RQ G mX12_reckon d 243 [x0, x1, x2, x3, x4, x5] (.ref i :: S) h P := q_get (M := mX12_reckon) (pc := 243) (kf := 19) dX12_reckon_243 (show CL[10]? = some (RX12, TX12, 25) from rfl) inA12 (by decide) rfl w1442 ha hv r
theorem tX12_reckon_246 {v : Int32} (r : RQ G mX12_reckon d 247 [x0, x1, x2, some (.int v), x4, x5] (.int v :: S) (h) P) : RQ G mX12_reckon d 246 [x0, x1, x2, some (.int v), x4, x5] (S) h P := q_iload_n (M := mX12_reckon) (pc := 246) dX12_reckon_246 rfl rfl r
theorem tX12_reckon_247 {a n j : Nat} {x : Int32} {f : Nat → Int32} (ha : At h a (.inl (0, n, .inl f))) (hx : x = nI j) (hj : j < n) (hn : n < 2147483648) (r : RQ G mX12_reckon d 248 [x0, x1, x2, x3, x4, x5] (.int (f j) :: S) (h) P) : RQ G mX12_reckon d 247 [x0, x1, x2, x3, x4, x5] (.int x :: .ref a :: S) h P := q_iald (M := mX12_reckon) (pc := 247) dX12_reckon_247 ha hx hj hn r
theorem tX12_reckon_248 {k : Nat} (r : RQ G mX12_reckon d 249 [some (.ref k), x1, x2, x3, x4, x5] (.ref k :: S) (h) P) : RQ G mX12_reckon d 248 [some (.ref k), x1, x2, x3, x4, x5] (S) h P := q_aload_n (M := mX12_reckon) (pc := 248) (r0 := some k) dX12_reckon_248 rfl rfl r
theorem tX12_reckon_249 {i : Nat} {vs : List Value} {v : Value} (ha : At h i (.inr (10, vs))) (hv : vs[19]? = some v) (r : RQ G mX12_reckon d 252 [x0, x1, x2, x3, x4, x5] (v :: S) (h) P) : RQ G mX12_reckon d 249 [x0, x1, x2, x3, x4, x5] (.ref i :: S) h P := q_get (M := mX12_reckon) (pc := 249) (kf := 19) dX12_reckon_249 (show CL[10]? = some (RX12, TX12, 25) from rfl) inA12 (by decide) rfl w1442 ha hv r
theorem tX12_reckon_252 {v : Int32} (r : RQ G mX12_reckon d 254 [x0, x1, x2, x3, some (.int v), x5] (.int v :: S) (h) P) : RQ G mX12_reckon d 252 [x0, x1, x2, x3, some (.int v), x5] (S) h P := q_iload (M := mX12_reckon) (pc := 252) dX12_reckon_252 rfl r
theorem tX12_reckon_254 {a n j : Nat} {x : Int32} {f : Nat → Int32} (ha : At h a (.inl (0, n, .inl f))) (hx : x = nI j) (hj : j < n) (hn : n < 2147483648) (r : RQ G mX12_reckon d 255 [x0, x1, x2, x3, x4, x5] (.int (f j) :: S) (h) P) : RQ G mX12_reckon d 254 [x0, x1, x2, x3, x4, x5] (.int x :: .ref a :: S) h P := q_iald (M := mX12_reckon) (pc := 254) dX12_reckon_254 ha hx hj hn r
theorem tX12_reckon_255 {d2 : Nat} {a0 : Int32} {a1 : Int32} {a2 : Int32} {Q : Int32 → AH → Prop} (hd : d2 + 1 ≤ d) (call : RQ G mX12_joined d2 0 [some (.int a0), some (.int a1), some (.int a2)] [] h (Ri Q)) (k : ∀ x h1, Q x h1 → RQ G mX12_reckon d 258 [x0, x1, x2, x3, x4, x5] (.int x :: S) h1 P) (hst : (S.map fun v => v.category).sum ≤ 8 := by exact Nat.le_of_ble_eq_true rfl)  : RQ G mX12_reckon d 255 [x0, x1, x2, x3, x4, x5] (.int a2 :: .int a1 :: .int a0 :: S) h P := q_callS (M := mX12_reckon) (pc := 255) (M2 := mX12_joined) (As := [.int a0, .int a1, .int a2]) (n := 3) dX12_reckon_255 ⟨by decide, by decide, by decide, rfl⟩ rfl w1865 w1866 w120 w1867 hd (by decide) (Nat.le_of_ble_eq_true rfl) rfl hst call (callk_i k)
theorem tX12_reckon_258 {x : Int32} (hP : P (.inl (some (.int x))) h) : RQ G mX12_reckon d 258 [x0, x1, x2, x3, x4, x5] ([.int x]) h P := q_ireturn (M := mX12_reckon) (pc := 258) (ty := .int) dX12_reckon_258 rfl rfl hP
end T
theorem dX12_joined_0 : decode cX12_joined 0 = .ok (.iload_n 0, 1) := by decide +kernel
theorem dX12_joined_1 : decode cX12_joined 1 = .ok (.lookupswitch 109 #[(16, 79), (17, 83), (40, 67), (41, 71), (42, 75), (43, 87), (44, 98)], 67) := by decide +kernel
theorem dX12_joined_68 : decode cX12_joined 68 = .ok (.iload_n 1, 1) := by decide +kernel
theorem dX12_joined_69 : decode cX12_joined 69 = .ok (.iload_n 2, 1) := by decide +kernel
theorem dX12_joined_70 : decode cX12_joined 70 = .ok (.iadd, 1) := by decide +kernel
theorem dX12_joined_71 : decode cX12_joined 71 = .ok (.ireturn, 1) := by decide +kernel
theorem dX12_joined_72 : decode cX12_joined 72 = .ok (.iload_n 1, 1) := by decide +kernel
theorem dX12_joined_73 : decode cX12_joined 73 = .ok (.iload_n 2, 1) := by decide +kernel
theorem dX12_joined_74 : decode cX12_joined 74 = .ok (.isub, 1) := by decide +kernel
theorem dX12_joined_75 : decode cX12_joined 75 = .ok (.ireturn, 1) := by decide +kernel
theorem dX12_joined_76 : decode cX12_joined 76 = .ok (.iload_n 1, 1) := by decide +kernel
theorem dX12_joined_77 : decode cX12_joined 77 = .ok (.iload_n 2, 1) := by decide +kernel
theorem dX12_joined_78 : decode cX12_joined 78 = .ok (.imul, 1) := by decide +kernel
theorem dX12_joined_79 : decode cX12_joined 79 = .ok (.ireturn, 1) := by decide +kernel
theorem dX12_joined_80 : decode cX12_joined 80 = .ok (.iload_n 1, 1) := by decide +kernel
theorem dX12_joined_81 : decode cX12_joined 81 = .ok (.iload_n 2, 1) := by decide +kernel
theorem dX12_joined_82 : decode cX12_joined 82 = .ok (.iand, 1) := by decide +kernel
theorem dX12_joined_83 : decode cX12_joined 83 = .ok (.ireturn, 1) := by decide +kernel
theorem dX12_joined_84 : decode cX12_joined 84 = .ok (.iload_n 1, 1) := by decide +kernel
theorem dX12_joined_85 : decode cX12_joined 85 = .ok (.iload_n 2, 1) := by decide +kernel
theorem dX12_joined_86 : decode cX12_joined 86 = .ok (.ior, 1) := by decide +kernel
theorem dX12_joined_87 : decode cX12_joined 87 = .ok (.ireturn, 1) := by decide +kernel
theorem dX12_joined_88 : decode cX12_joined 88 = .ok (.iload_n 1, 1) := by decide +kernel
theorem dX12_joined_89 : decode cX12_joined 89 = .ok (.iload_n 2, 1) := by decide +kernel
theorem dX12_joined_90 : decode cX12_joined 90 = .ok (.if_icmp .ge 7, 3) := by decide +kernel
theorem dX12_joined_93 : decode cX12_joined 93 = .ok (.iconst 1, 1) := by decide +kernel
theorem dX12_joined_94 : decode cX12_joined 94 = .ok (.goto 4, 3) := by decide +kernel
theorem dX12_joined_97 : decode cX12_joined 97 = .ok (.iconst 0, 1) := by decide +kernel
theorem dX12_joined_98 : decode cX12_joined 98 = .ok (.ireturn, 1) := by decide +kernel
theorem dX12_joined_99 : decode cX12_joined 99 = .ok (.iload_n 1, 1) := by decide +kernel
theorem dX12_joined_100 : decode cX12_joined 100 = .ok (.iload_n 2, 1) := by decide +kernel
theorem dX12_joined_101 : decode cX12_joined 101 = .ok (.if_icmp .le 7, 3) := by decide +kernel
theorem dX12_joined_104 : decode cX12_joined 104 = .ok (.iconst 1, 1) := by decide +kernel
theorem dX12_joined_105 : decode cX12_joined 105 = .ok (.goto 4, 3) := by decide +kernel
theorem dX12_joined_108 : decode cX12_joined 108 = .ok (.iconst 0, 1) := by decide +kernel
theorem dX12_joined_109 : decode cX12_joined 109 = .ok (.ireturn, 1) := by decide +kernel
theorem dX12_joined_110 : decode cX12_joined 110 = .ok (.iload_n 1, 1) := by decide +kernel
theorem dX12_joined_111 : decode cX12_joined 111 = .ok (.iload_n 2, 1) := by decide +kernel
theorem dX12_joined_112 : decode cX12_joined 112 = .ok (.if_icmp .ne 7, 3) := by decide +kernel
theorem dX12_joined_115 : decode cX12_joined 115 = .ok (.iconst 1, 1) := by decide +kernel
theorem dX12_joined_116 : decode cX12_joined 116 = .ok (.goto 4, 3) := by decide +kernel
theorem dX12_joined_119 : decode cX12_joined 119 = .ok (.iconst 0, 1) := by decide +kernel
theorem dX12_joined_120 : decode cX12_joined 120 = .ok (.ireturn, 1) := by decide +kernel
section T
variable {G : GT} {d : Nat} {S : List Value} {h : AH} {P : OC → AH → Prop} {x0 x1 x2 x3 x4 x5 x6 x7 x8 x9 x10 x11 x12 x13 x14 x15 : Option Value}
theorem tX12_joined_0 {v : Int32} (r : RQ G mX12_joined d 1 [some (.int v), x1, x2] (.int v :: S) (h) P) : RQ G mX12_joined d 0 [some (.int v), x1, x2] (S) h P := q_iload_n (M := mX12_joined) (pc := 0) dX12_joined_0 rfl rfl r
theorem tX12_joined_68 {v : Int32} (r : RQ G mX12_joined d 69 [x0, some (.int v), x2] (.int v :: S) (h) P) : RQ G mX12_joined d 68 [x0, some (.int v), x2] (S) h P := q_iload_n (M := mX12_joined) (pc := 68) dX12_joined_68 rfl rfl r
theorem tX12_joined_69 {v : Int32} (r : RQ G mX12_joined d 70 [x0, x1, some (.int v)] (.int v :: S) (h) P) : RQ G mX12_joined d 69 [x0, x1, some (.int v)] (S) h P := q_iload_n (M := mX12_joined) (pc := 69) dX12_joined_69 rfl rfl r
theorem tX12_joined_70 {x y : Int32} (r : RQ G mX12_joined d 71 [x0, x1, x2] (.int (x + y) :: S) (h) P) : RQ G mX12_joined d 70 [x0, x1, x2] (.int y :: .int x :: S) h P := q_iadd (M := mX12_joined) (pc := 70) dX12_joined_70 r
theorem tX12_joined_71 {x : Int32} (hP : P (.inl (some (.int x))) h) : RQ G mX12_joined d 71 [x0, x1, x2] ([.int x]) h P := q_ireturn (M := mX12_joined) (pc := 71) (ty := .int) dX12_joined_71 rfl rfl hP
theorem tX12_joined_72 {v : Int32} (r : RQ G mX12_joined d 73 [x0, some (.int v), x2] (.int v :: S) (h) P) : RQ G mX12_joined d 72 [x0, some (.int v), x2] (S) h P := q_iload_n (M := mX12_joined) (pc := 72) dX12_joined_72 rfl rfl r
theorem tX12_joined_73 {v : Int32} (r : RQ G mX12_joined d 74 [x0, x1, some (.int v)] (.int v :: S) (h) P) : RQ G mX12_joined d 73 [x0, x1, some (.int v)] (S) h P := q_iload_n (M := mX12_joined) (pc := 73) dX12_joined_73 rfl rfl r
theorem tX12_joined_74 {x y : Int32} (r : RQ G mX12_joined d 75 [x0, x1, x2] (.int (x - y) :: S) (h) P) : RQ G mX12_joined d 74 [x0, x1, x2] (.int y :: .int x :: S) h P := q_isub (M := mX12_joined) (pc := 74) dX12_joined_74 r
theorem tX12_joined_75 {x : Int32} (hP : P (.inl (some (.int x))) h) : RQ G mX12_joined d 75 [x0, x1, x2] ([.int x]) h P := q_ireturn (M := mX12_joined) (pc := 75) (ty := .int) dX12_joined_75 rfl rfl hP
theorem tX12_joined_76 {v : Int32} (r : RQ G mX12_joined d 77 [x0, some (.int v), x2] (.int v :: S) (h) P) : RQ G mX12_joined d 76 [x0, some (.int v), x2] (S) h P := q_iload_n (M := mX12_joined) (pc := 76) dX12_joined_76 rfl rfl r
theorem tX12_joined_77 {v : Int32} (r : RQ G mX12_joined d 78 [x0, x1, some (.int v)] (.int v :: S) (h) P) : RQ G mX12_joined d 77 [x0, x1, some (.int v)] (S) h P := q_iload_n (M := mX12_joined) (pc := 77) dX12_joined_77 rfl rfl r
theorem tX12_joined_78 {x y : Int32} (r : RQ G mX12_joined d 79 [x0, x1, x2] (.int (x * y) :: S) (h) P) : RQ G mX12_joined d 78 [x0, x1, x2] (.int y :: .int x :: S) h P := q_imul (M := mX12_joined) (pc := 78) dX12_joined_78 r
theorem tX12_joined_79 {x : Int32} (hP : P (.inl (some (.int x))) h) : RQ G mX12_joined d 79 [x0, x1, x2] ([.int x]) h P := q_ireturn (M := mX12_joined) (pc := 79) (ty := .int) dX12_joined_79 rfl rfl hP
theorem tX12_joined_80 {v : Int32} (r : RQ G mX12_joined d 81 [x0, some (.int v), x2] (.int v :: S) (h) P) : RQ G mX12_joined d 80 [x0, some (.int v), x2] (S) h P := q_iload_n (M := mX12_joined) (pc := 80) dX12_joined_80 rfl rfl r
theorem tX12_joined_81 {v : Int32} (r : RQ G mX12_joined d 82 [x0, x1, some (.int v)] (.int v :: S) (h) P) : RQ G mX12_joined d 81 [x0, x1, some (.int v)] (S) h P := q_iload_n (M := mX12_joined) (pc := 81) dX12_joined_81 rfl rfl r
theorem tX12_joined_82 {x y : Int32} (r : RQ G mX12_joined d 83 [x0, x1, x2] (.int (x &&& y) :: S) (h) P) : RQ G mX12_joined d 82 [x0, x1, x2] (.int y :: .int x :: S) h P := q_iand (M := mX12_joined) (pc := 82) dX12_joined_82 r
theorem tX12_joined_83 {x : Int32} (hP : P (.inl (some (.int x))) h) : RQ G mX12_joined d 83 [x0, x1, x2] ([.int x]) h P := q_ireturn (M := mX12_joined) (pc := 83) (ty := .int) dX12_joined_83 rfl rfl hP
theorem tX12_joined_84 {v : Int32} (r : RQ G mX12_joined d 85 [x0, some (.int v), x2] (.int v :: S) (h) P) : RQ G mX12_joined d 84 [x0, some (.int v), x2] (S) h P := q_iload_n (M := mX12_joined) (pc := 84) dX12_joined_84 rfl rfl r
theorem tX12_joined_85 {v : Int32} (r : RQ G mX12_joined d 86 [x0, x1, some (.int v)] (.int v :: S) (h) P) : RQ G mX12_joined d 85 [x0, x1, some (.int v)] (S) h P := q_iload_n (M := mX12_joined) (pc := 85) dX12_joined_85 rfl rfl r
theorem tX12_joined_86 {x y : Int32} (r : RQ G mX12_joined d 87 [x0, x1, x2] (.int (x ||| y) :: S) (h) P) : RQ G mX12_joined d 86 [x0, x1, x2] (.int y :: .int x :: S) h P := q_ior (M := mX12_joined) (pc := 86) dX12_joined_86 r
theorem tX12_joined_87 {x : Int32} (hP : P (.inl (some (.int x))) h) : RQ G mX12_joined d 87 [x0, x1, x2] ([.int x]) h P := q_ireturn (M := mX12_joined) (pc := 87) (ty := .int) dX12_joined_87 rfl rfl hP
theorem tX12_joined_88 {v : Int32} (r : RQ G mX12_joined d 89 [x0, some (.int v), x2] (.int v :: S) (h) P) : RQ G mX12_joined d 88 [x0, some (.int v), x2] (S) h P := q_iload_n (M := mX12_joined) (pc := 88) dX12_joined_88 rfl rfl r
theorem tX12_joined_89 {v : Int32} (r : RQ G mX12_joined d 90 [x0, x1, some (.int v)] (.int v :: S) (h) P) : RQ G mX12_joined d 89 [x0, x1, some (.int v)] (S) h P := q_iload_n (M := mX12_joined) (pc := 89) dX12_joined_89 rfl rfl r
theorem tX12_joined_90 {x y : Int32} (kt : y ≤ x → RQ G mX12_joined d 97 [x0, x1, x2] S h P) (kf : ¬ y ≤ x → RQ G mX12_joined d 93 [x0, x1, x2] S h P) : RQ G mX12_joined d 90 [x0, x1, x2] (.int y :: .int x :: S) h P := q_icmp_ge (M := mX12_joined) (pc := 90) dX12_joined_90 (by decide) kt kf
theorem tX12_joined_93 (r : RQ G mX12_joined d 94 [x0, x1, x2] (.int (nI 1) :: S) (h) P) : RQ G mX12_joined d 93 [x0, x1, x2] (S) h P := q_iconst (M := mX12_joined) (pc := 93) dX12_joined_93 (by decide) r
theorem tX12_joined_94 (r : RQ G mX12_joined d 98 [x0, x1, x2] S h P) : RQ G mX12_joined d 94 [x0, x1, x2] (S) h P := q_goto (M := mX12_joined) (pc := 94) dX12_joined_94 (by decide) r
theorem tX12_joined_97 (r : RQ G mX12_joined d 98 [x0, x1, x2] (.int (nI 0) :: S) (h) P) : RQ G mX12_joined d 97 [x0, x1, x2] (S) h P := q_iconst (M := mX12_joined) (pc := 97) dX12_joined_97 (by decide) r
theorem tX12_joined_98 {x : Int32} (hP : P (.inl (some (.int x))) h) : RQ G mX12_joined d 98 [x0, x1, x2] ([.int x]) h P := q_ireturn (M := mX12_joined) (pc := 98) (ty := .int) dX12_joined_98 rfl rfl hP
theorem tX12_joined_99 {v : Int32} (r : RQ G mX12_joined d 100 [x0, some (.int v), x2] (.int v :: S) (h) P) : RQ G mX12_joined d 99 [x0, some (.int v), x2] (S) h P := q_iload_n (M := mX12_joined) (pc := 99) dX12_joined_99 rfl rfl r
theorem tX12_joined_100 {v : Int32} (r : RQ G mX12_joined d 101 [x0, x1, some (.int v)] (.int v :: S) (h) P) : RQ G mX12_joined d 100 [x0, x1, some (.int v)] (S) h P := q_iload_n (M := mX12_joined) (pc := 100) dX12_joined_100 rfl rfl r
theorem tX12_joined_101 {x y : Int32} (kt : x ≤ y → RQ G mX12_joined d 108 [x0, x1, x2] S h P) (kf : ¬ x ≤ y → RQ G mX12_joined d 104 [x0, x1, x2] S h P) : RQ G mX12_joined d 101 [x0, x1, x2] (.int y :: .int x :: S) h P := q_icmp_le (M := mX12_joined) (pc := 101) dX12_joined_101 (by decide) kt kf
theorem tX12_joined_104 (r : RQ G mX12_joined d 105 [x0, x1, x2] (.int (nI 1) :: S) (h) P) : RQ G mX12_joined d 104 [x0, x1, x2] (S) h P := q_iconst (M := mX12_joined) (pc := 104) dX12_joined_104 (by decide) r
theorem tX12_joined_105 (r : RQ G mX12_joined d 109 [x0, x1, x2] S h P) : RQ G mX12_joined d 105 [x0, x1, x2] (S) h P := q_goto (M := mX12_joined) (pc := 105) dX12_joined_105 (by decide) r
theorem tX12_joined_108 (r : RQ G mX12_joined d 109 [x0, x1, x2] (.int (nI 0) :: S) (h) P) : RQ G mX12_joined d 108 [x0, x1, x2] (S) h P := q_iconst (M := mX12_joined) (pc := 108) dX12_joined_108 (by decide) r
theorem tX12_joined_109 {x : Int32} (hP : P (.inl (some (.int x))) h) : RQ G mX12_joined d 109 [x0, x1, x2] ([.int x]) h P := q_ireturn (M := mX12_joined) (pc := 109) (ty := .int) dX12_joined_109 rfl rfl hP
theorem tX12_joined_110 {v : Int32} (r : RQ G mX12_joined d 111 [x0, some (.int v), x2] (.int v :: S) (h) P) : RQ G mX12_joined d 110 [x0, some (.int v), x2] (S) h P := q_iload_n (M := mX12_joined) (pc := 110) dX12_joined_110 rfl rfl r
theorem tX12_joined_111 {v : Int32} (r : RQ G mX12_joined d 112 [x0, x1, some (.int v)] (.int v :: S) (h) P) : RQ G mX12_joined d 111 [x0, x1, some (.int v)] (S) h P := q_iload_n (M := mX12_joined) (pc := 111) dX12_joined_111 rfl rfl r
theorem tX12_joined_112 {x y : Int32} (kt : ¬ x = y → RQ G mX12_joined d 119 [x0, x1, x2] S h P) (kf : x = y → RQ G mX12_joined d 115 [x0, x1, x2] S h P) : RQ G mX12_joined d 112 [x0, x1, x2] (.int y :: .int x :: S) h P := q_icmp_ne (M := mX12_joined) (pc := 112) dX12_joined_112 (by decide) kt kf
theorem tX12_joined_115 (r : RQ G mX12_joined d 116 [x0, x1, x2] (.int (nI 1) :: S) (h) P) : RQ G mX12_joined d 115 [x0, x1, x2] (S) h P := q_iconst (M := mX12_joined) (pc := 115) dX12_joined_115 (by decide) r
theorem tX12_joined_116 (r : RQ G mX12_joined d 120 [x0, x1, x2] S h P) : RQ G mX12_joined d 116 [x0, x1, x2] (S) h P := q_goto (M := mX12_joined) (pc := 116) dX12_joined_116 (by decide) r
theorem tX12_joined_119 (r : RQ G mX12_joined d 120 [x0, x1, x2] (.int (nI 0) :: S) (h) P) : RQ G mX12_joined d 119 [x0, x1, x2] (S) h P := q_iconst (M := mX12_joined) (pc := 119) dX12_joined_119 (by decide) r
theorem tX12_joined_120 {x : Int32} (hP : P (.inl (some (.int x))) h) : RQ G mX12_joined d 120 [x0, x1, x2] ([.int x]) h P := q_ireturn (M := mX12_joined) (pc := 120) (ty := .int) dX12_joined_120 rfl rfl hP
end T
theorem dX12_reckonAll_0 : decode cX12_reckonAll 0 = .ok (.iload_n 2, 1) := by decide +kernel
theorem dX12_reckonAll_1 : decode cX12_reckonAll 1 = .ok (.istore 4, 2) := by decide +kernel
theorem dX12_reckonAll_3 : decode cX12_reckonAll 3 = .ok (.iload 4, 2) := by decide +kernel
theorem dX12_reckonAll_5 : decode cX12_reckonAll 5 = .ok (.iload_n 3, 1) := by decide +kernel
theorem dX12_reckonAll_6 : decode cX12_reckonAll 6 = .ok (.if_icmp .gt 51, 3) := by decide +kernel
theorem dX12_reckonAll_9 : decode cX12_reckonAll 9 = .ok (.aload_n 0, 1) := by decide +kernel
theorem dX12_reckonAll_10 : decode cX12_reckonAll 10 = .ok (.getfield 48, 3) := by decide +kernel
theorem dX12_reckonAll_13 : decode cX12_reckonAll 13 = .ok (.iload 4, 2) := by decide +kernel
theorem dX12_reckonAll_15 : decode cX12_reckonAll 15 = .ok (.aload_n 0, 1) := by decide +kernel
theorem dX12_reckonAll_16 : decode cX12_reckonAll 16 = .ok (.iload_n 1, 1) := by decide +kernel
theorem dX12_reckonAll_17 : decode cX12_reckonAll 17 = .ok (.aload_n 0, 1) := by decide +kernel
theorem dX12_reckonAll_18 : decode cX12_reckonAll 18 = .ok (.getfield 41, 3) := by decide +kernel
theorem dX12_reckonAll_21 : decode cX12_reckonAll 21 = .ok (.getfield 161, 3) := by decide +kernel
theorem dX12_reckonAll_24 : decode cX12_reckonAll 24 = .ok (.iload 4, 2) := by decide +kernel
theorem dX12_reckonAll_26 : decode cX12_reckonAll 26 = .ok (.iaload, 1) := by decide +kernel
theorem dX12_reckonAll_27 : decode cX12_reckonAll 27 = .ok (.aload_n 0, 1) := by decide +kernel
theorem dX12_reckonAll_28 : decode cX12_reckonAll 28 = .ok (.getfield 41, 3) := by decide +kernel
theorem dX12_reckonAll_31 : decode cX12_reckonAll 31 = .ok (.getfield 164, 3) := by decide +kernel
theorem dX12_reckonAll_34 : decode cX12_reckonAll 34 = .ok (.iload 4, 2) := by decide +kernel
theorem dX12_reckonAll_36 : decode cX12_reckonAll 36 = .ok (.iaload, 1) := by decide +kernel
theorem dX12_reckonAll_37 : decode cX12_reckonAll 37 = .ok (.aload_n 0, 1) := by decide +kernel
theorem dX12_reckonAll_38 : decode cX12_reckonAll 38 = .ok (.getfield 41, 3) := by decide +kernel
theorem dX12_reckonAll_41 : decode cX12_reckonAll 41 = .ok (.getfield 167, 3) := by decide +kernel
theorem dX12_reckonAll_44 : decode cX12_reckonAll 44 = .ok (.iload 4, 2) := by decide +kernel
theorem dX12_reckonAll_46 : decode cX12_reckonAll 46 = .ok (.iaload, 1) := by decide +kernel
theorem dX12_reckonAll_47 : decode cX12_reckonAll 47 = .ok (.invokevirtual 357, 3) := by decide +kernel
theorem dX12_reckonAll_50 : decode cX12_reckonAll 50 = .ok (.iastore, 1) := by decide +kernel
theorem dX12_reckonAll_51 : decode cX12_reckonAll 51 = .ok (.iinc 4 1, 3) := by decide +kernel
theorem dX12_reckonAll_54 : decode cX12_reckonAll 54 = .ok (.goto (-51), 3) := by decide +kernel
theorem dX12_reckonAll_57 : decode cX12_reckonAll 57 = .ok (.aload_n 0, 1) := by decide +kernel
theorem dX12_reckonAll_58 : decode cX12_reckonAll 58 = .ok (.getfield 48, 3) := by decide +kernel
theorem dX12_reckonAll_61 : decode cX12_reckonAll 61 = .ok (.iload_n 3, 1) := by decide +kernel
theorem dX12_reckonAll_62 : decode cX12_reckonAll 62 = .ok (.iaload, 1) := by decide +kernel
theorem dX12_reckonAll_63 : decode cX12_reckonAll 63 = .ok (.ireturn, 1) := by decide +kernel
section T
variable {G : GT} {d : Nat} {S : List Value} {h : AH} {P : OC → AH → Prop} {x0 x1 x2 x3 x4 x5 x6 x7 x8 x9 x10 x11 x12 x13 x14 x15 : Option Value}
theorem tX12_reckonAll_0 {v : Int32} (r : RQ G mX12_reckonAll d 1 [x0, x1, some (.int v), x3, x4] (.int v :: S) (h) P) : RQ G mX12_reckonAll d 0 [x0, x1, some (.int v), x3, x4] (S) h P := q_iload_n (M := mX12_reckonAll) (pc := 0) dX12_reckonAll_0 rfl rfl r
theorem tX12_reckonAll_1 {v : Int32} (ho : ok1 x3 = true := by rfl) (r : RQ G mX12_reckonAll d 3 [x0, x1, x2, x3, some (.int v)] (S) (h) P) : RQ G mX12_reckonAll d 1 [x0, x1, x2, x3, x4] (.int v :: S) h P := q_istore (M := mX12_reckonAll) (pc := 1) dX12_reckonAll_1 (Nat.le_of_ble_eq_true rfl) ho r
theorem tX12_reckonAll_3 {v : Int32} (r : RQ G mX12_reckonAll d 5 [x0, x1, x2, x3, some (.int v)] (.int v :: S) (h) P) : RQ G mX12_reckonAll d 3 [x0, x1, x2, x3, some (.int v)] (S) h P := q_iload (M := mX12_reckonAll) (pc := 3) dX12_reckonAll_3 rfl r
theorem tX12_reckonAll_5 {v : Int32} (r : RQ G mX12_reckonAll d 6 [x0, x1, x2, some (.int v), x4] (.int v :: S) (h) P) : RQ G mX12_reckonAll d 5 [x0, x1, x2, some (.int v), x4] (S) h P := q_iload_n (M := mX12_reckonAll) (pc := 5) dX12_reckonAll_5 rfl rfl r
theorem tX12_reckonAll_6 {x y : Int32} (kt : y < x → RQ G mX12_reckonAll d 57 [x0, x1, x2, x3, x4] S h P) (kf : ¬ y < x → RQ G mX12_reckonAll d 9 [x0, x1, x2, x3, x4] S h P) : RQ G mX12_reckonAll d 6 [x0, x1, x2, x3, x4] (.int y :: .int x :: S) h P := q_icmp_gt (M := mX12_reckonAll) (pc := 6) dX12_reckonAll_6 (by decide) kt kf
theorem tX12_reckonAll_9 {k : Nat} (r : RQ G mX12_reckonAll d 10 [some (.ref k), x1, x2, x3, x4] (.ref k :: S) (h) P) : RQ G mX12_reckonAll d 9 [some (.ref k), x1, x2, x3, x4] (S) h P := q_aload_n (M := mX12_reckonAll) (pc := 9) (r0 := some k) dX12_reckonAll_9 rfl rfl r
theorem tX12_reckonAll_10 {i : Nat} {vs : List Value} {v : Value} (ha : At h i (.inr (10, vs))) (hv : vs[19]? = some v) (r : RQ G mX12_reckonAll d 13 [x0, x1, x2, x3, x4] (v :: S) (h) P) : RQ G mX12_reckonAll d 10 [x0, x1, x2, x3, x4] (.ref i :: S) h P := q_get (M := mX12_reckonAll) (pc := 10) (kf := 19) dX12_reckonAll_10 (show CL[10]? = some (RX12, TX12, 25) from rfl) inA12 (by decide) rfl w1442 ha hv r
theorem tX12_reckonAll_13 {v : Int32} (r : RQ G mX12_reckonAll d 15 [x0, x1, x2, x3, some (.int v)] (.int v :: S) (h) P) : RQ G mX12_reckonAll d 13 [x0, x1, x2, x3, some (.int v)] (S) h P := q_iload (M := mX12_reckonAll) (pc := 13) dX12_reckonAll_13 rfl r
theorem tX12_reckonAll_15 {k : Nat} (r : RQ G mX12_reckonAll d 16 [some (.ref k), x1, x2, x3, x4] (.ref k :: S) (h) P) : RQ G mX12_reckonAll d 15 [some (.ref k), x1, x2, x3, x4] (S) h P := q_aload_n (M := mX12_reckonAll) (pc := 15) (r0 := some k) dX12_reckonAll_15 rfl rfl r
theorem tX12_reckonAll_16 {v : Int32} (r : RQ G mX12_reckonAll d 17 [x0, some (.int v), x2, x3, x4] (.int v :: S) (h) P) : RQ G mX12_reckonAll d 16 [x0, some (.int v), x2, x3, x4] (S) h P := q_iload_n (M := mX12_reckonAll) (pc := 16) dX12_reckonAll_16 rfl rfl r
theorem tX12_reckonAll_17 {k : Nat} (r : RQ G mX12_reckonAll d 18 [some (.ref k), x1, x2, x3, x4] (.ref k :: S) (h) P) : RQ G mX12_reckonAll d 17 [some (.ref k), x1, x2, x3, x4] (S) h P := q_aload_n (M := mX12_reckonAll) (pc := 17) (r0 := some k) dX12_reckonAll_17 rfl rfl r
theorem tX12_reckonAll_18 {i : Nat} {vs : List Value} {v : Value} (ha : At h i (.inr (10, vs))) (hv : vs[17]? = some v) (r : RQ G mX12_reckonAll d 21 [x0, x1, x2, x3, x4] (v :: S) (h) P) : RQ G mX12_reckonAll d 18 [x0, x1, x2, x3, x4] (.ref i :: S) h P := q_get (M := mX12_reckonAll) (pc := 18) (kf := 17) dX12_reckonAll_18 (show CL[10]? = some (RX12, TX12, 25) from rfl) inA12 (by decide) rfl w1440 ha hv r
theorem tX12_reckonAll_21 {i : Nat} {vs : List Value} {v : Value} (ha : At h i (.inr (9, vs))) (hv : vs[21]? = some v) (r : RQ G mX12_reckonAll d 24 [x0, x1, x2, x3, x4] (v :: S) (h) P) : RQ G mX12_reckonAll d 21 [x0, x1, x2, x3, x4] (.ref i :: S) h P := q_getN (M := mX12_reckonAll) (pc := 21) (kf := 21) dX12_reckonAll_21 (show CL[9]? = some (RX11, TX11, 24) from rfl) inA11 (by decide) rfl v1362 ha hv r
theorem tX12_reckonAll_24 {v : Int32} (r : RQ G mX12_reckonAll d 26 [x0, x1, x2, x3, some (.int v)] (.int v :: S) (h) P) : RQ G mX12_reckonAll d 24 [x0, x1, x2, x3, some (.int v)] (S) h P := q_iload (M := mX12_reckonAll) (pc := 24) dX12_reckonAll_24 rfl r
theorem tX12_reckonAll_26 {a n j : Nat} {x : Int32} {f : Nat → Int32} (ha : At h a (.inl (0, n, .inl f))) (hx : x = nI j) (hj : j < n) (hn : n < 2147483648) (r : RQ G mX12_reckonAll d 27 [x0, x1, x2, x3, x4] (.int (f j) :: S) (h) P) : RQ G mX12_reckonAll d 26 [x0, x1, x2, x3, x4] (.int x :: .ref a :: S) h P := q_iald (M := mX12_reckonAll) (pc := 26) dX12_reckonAll_26 ha hx hj hn r
theorem tX12_reckonAll_27 {k : Nat} (r : RQ G mX12_reckonAll d 28 [some (.ref k), x1, x2, x3, x4] (.ref k :: S) (h) P) : RQ G mX12_reckonAll d 27 [some (.ref k), x1, x2, x3, x4] (S) h P := q_aload_n (M := mX12_reckonAll) (pc := 27) (r0 := some k) dX12_reckonAll_27 rfl rfl r
theorem tX12_reckonAll_28 {i : Nat} {vs : List Value} {v : Value} (ha : At h i (.inr (10, vs))) (hv : vs[17]? = some v) (r : RQ G mX12_reckonAll d 31 [x0, x1, x2, x3, x4] (v :: S) (h) P) : RQ G mX12_reckonAll d 28 [x0, x1, x2, x3, x4] (.ref i :: S) h P := q_get (M := mX12_reckonAll) (pc := 28) (kf := 17) dX12_reckonAll_28 (show CL[10]? = some (RX12, TX12, 25) from rfl) inA12 (by decide) rfl w1440 ha hv r
theorem tX12_reckonAll_31 {i : Nat} {vs : List Value} {v : Value} (ha : At h i (.inr (9, vs))) (hv : vs[22]? = some v) (r : RQ G mX12_reckonAll d 34 [x0, x1, x2, x3, x4] (v :: S) (h) P) : RQ G mX12_reckonAll d 31 [x0, x1, x2, x3, x4] (.ref i :: S) h P := q_getN (M := mX12_reckonAll) (pc := 31) (kf := 22) dX12_reckonAll_31 (show CL[9]? = some (RX11, TX11, 24) from rfl) inA11 (by decide) rfl v1364 ha hv r
theorem tX12_reckonAll_34 {v : Int32} (r : RQ G mX12_reckonAll d 36 [x0, x1, x2, x3, some (.int v)] (.int v :: S) (h) P) : RQ G mX12_reckonAll d 34 [x0, x1, x2, x3, some (.int v)] (S) h P := q_iload (M := mX12_reckonAll) (pc := 34) dX12_reckonAll_34 rfl r
theorem tX12_reckonAll_36 {a n j : Nat} {x : Int32} {f : Nat → Int32} (ha : At h a (.inl (0, n, .inl f))) (hx : x = nI j) (hj : j < n) (hn : n < 2147483648) (r : RQ G mX12_reckonAll d 37 [x0, x1, x2, x3, x4] (.int (f j) :: S) (h) P) : RQ G mX12_reckonAll d 36 [x0, x1, x2, x3, x4] (.int x :: .ref a :: S) h P := q_iald (M := mX12_reckonAll) (pc := 36) dX12_reckonAll_36 ha hx hj hn r
theorem tX12_reckonAll_37 {k : Nat} (r : RQ G mX12_reckonAll d 38 [some (.ref k), x1, x2, x3, x4] (.ref k :: S) (h) P) : RQ G mX12_reckonAll d 37 [some (.ref k), x1, x2, x3, x4] (S) h P := q_aload_n (M := mX12_reckonAll) (pc := 37) (r0 := some k) dX12_reckonAll_37 rfl rfl r
theorem tX12_reckonAll_38 {i : Nat} {vs : List Value} {v : Value} (ha : At h i (.inr (10, vs))) (hv : vs[17]? = some v) (r : RQ G mX12_reckonAll d 41 [x0, x1, x2, x3, x4] (v :: S) (h) P) : RQ G mX12_reckonAll d 38 [x0, x1, x2, x3, x4] (.ref i :: S) h P := q_get (M := mX12_reckonAll) (pc := 38) (kf := 17) dX12_reckonAll_38 (show CL[10]? = some (RX12, TX12, 25) from rfl) inA12 (by decide) rfl w1440 ha hv r
theorem tX12_reckonAll_41 {i : Nat} {vs : List Value} {v : Value} (ha : At h i (.inr (9, vs))) (hv : vs[23]? = some v) (r : RQ G mX12_reckonAll d 44 [x0, x1, x2, x3, x4] (v :: S) (h) P) : RQ G mX12_reckonAll d 41 [x0, x1, x2, x3, x4] (.ref i :: S) h P := q_getN (M := mX12_reckonAll) (pc := 41) (kf := 23) dX12_reckonAll_41 (show CL[9]? = some (RX11, TX11, 24) from rfl) inA11 (by decide) rfl v1366 ha hv r
theorem tX12_reckonAll_44 {v : Int32} (r : RQ G mX12_reckonAll d 46 [x0, x1, x2, x3, some (.int v)] (.int v :: S) (h) P) : RQ G mX12_reckonAll d 44 [x0, x1, x2, x3, some (.int v)] (S) h P := q_iload (M := mX12_reckonAll) (pc := 44) dX12_reckonAll_44 rfl r
theorem tX12_reckonAll_46 {a n j : Nat} {x : Int32} {f : Nat → Int32} (ha : At h a (.inl (0, n, .inl f))) (hx : x = nI j) (hj : j < n) (hn : n < 2147483648) (r : RQ G mX12_reckonAll d 47 [x0, x1, x2, x3, x4] (.int (f j) :: S) (h) P) : RQ G mX12_reckonAll d 46 [x0, x1, x2, x3, x4] (.int x :: .ref a :: S) h P := q_iald (M := mX12_reckonAll) (pc := 46) dX12_reckonAll_46 ha hx hj hn r
theorem tX12_reckonAll_47 {b d2 : Nat} {vs : List Value} {a0 : Int32} {a1 : Int32} {a2 : Int32} {a3 : Int32} {Q : Int32 → AH → Prop} (hd : d2 + 1 ≤ d) (ha : At h b (.inr (10, vs))) (call : RQ G mX12_reckon d2 0 [some (.ref b), some (.int a0), some (.int a1), some (.int a2), some (.int a3), none] [] h (Ri Q)) (k : ∀ x h1, Q x h1 → RQ G mX12_reckonAll d 50 [x0, x1, x2, x3, x4] (.int x :: S) h1 P) (hst : (S.map fun v => v.category).sum ≤ 8 := by exact Nat.le_of_ble_eq_true rfl)  : RQ G mX12_reckonAll d 47 [x0, x1, x2, x3, x4] (.int a3 :: .int a2 :: .int a1 :: .int a0 :: .ref b :: S) h P := q_callV (M := mX12_reckonAll) (pc := 47) (M2 := mX12_reckon) (As := [.int a0, .int a1, .int a2, .int a3]) (n := 4) dX12_reckonAll_47 rfl ⟨by decide, by decide, by decide, rfl⟩ rfl w1861 w1863 w97 w120 w1864 (show CL[10]? = some (RX12, TX12, 25) from rfl) hd (by decide) (Nat.le_of_ble_eq_true rfl) rfl ha hst call (callk_i k)
theorem tX12_reckonAll_50 {a n j : Nat} {x : Int32} {v : Int32} {f : Nat → Int32} (ha : At h a (.inl (0, n, .inl f))) (hx : x = nI j) (hj : j < n) (hn : n < 2147483648) (r : RQ G mX12_reckonAll d 51 [x0, x1, x2, x3, x4] (S) (hset h a (.inl (0, n, .inl (upd f j v)))) P) : RQ G mX12_reckonAll d 50 [x0, x1, x2, x3, x4] (.int v :: .int x :: .ref a :: S) h P := q_iast (M := mX12_reckonAll) (pc := 50) dX12_reckonAll_50 ha hx hj hn r
theorem tX12_reckonAll_51 {v : Int32} (ho : ok1 x3 = true := by rfl) (r : RQ G mX12_reckonAll d 54 [x0, x1, x2, x3, some (.int (v + (nI 1)))] (S) (h) P) : RQ G mX12_reckonAll d 51 [x0, x1, x2, x3, some (.int v)] (S) h P := q_iinc (M := mX12_reckonAll) (pc := 51) dX12_reckonAll_51 rfl (congrArg (v + ·) (show Int32.ofInt (1) = (nI 1) by decide)) (Nat.le_of_ble_eq_true rfl) ho r
theorem tX12_reckonAll_54 (r : RQ G mX12_reckonAll d 3 [x0, x1, x2, x3, x4] S h P) : RQ G mX12_reckonAll d 54 [x0, x1, x2, x3, x4] (S) h P := q_goto (M := mX12_reckonAll) (pc := 54) dX12_reckonAll_54 (by decide) r
theorem tX12_reckonAll_57 {k : Nat} (r : RQ G mX12_reckonAll d 58 [some (.ref k), x1, x2, x3, x4] (.ref k :: S) (h) P) : RQ G mX12_reckonAll d 57 [some (.ref k), x1, x2, x3, x4] (S) h P := q_aload_n (M := mX12_reckonAll) (pc := 57) (r0 := some k) dX12_reckonAll_57 rfl rfl r
theorem tX12_reckonAll_58 {i : Nat} {vs : List Value} {v : Value} (ha : At h i (.inr (10, vs))) (hv : vs[19]? = some v) (r : RQ G mX12_reckonAll d 61 [x0, x1, x2, x3, x4] (v :: S) (h) P) : RQ G mX12_reckonAll d 58 [x0, x1, x2, x3, x4] (.ref i :: S) h P := q_get (M := mX12_reckonAll) (pc := 58) (kf := 19) dX12_reckonAll_58 (show CL[10]? = some (RX12, TX12, 25) from rfl) inA12 (by decide) rfl w1442 ha hv r
theorem tX12_reckonAll_61 {v : Int32} (r : RQ G mX12_reckonAll d 62 [x0, x1, x2, some (.int v), x4] (.int v :: S) (h) P) : RQ G mX12_reckonAll d 61 [x0, x1, x2, some (.int v), x4] (S) h P := q_iload_n (M := mX12_reckonAll) (pc := 61) dX12_reckonAll_61 rfl rfl r
theorem tX12_reckonAll_62 {a n j : Nat} {x : Int32} {f : Nat → Int32} (ha : At h a (.inl (0, n, .inl f))) (hx : x = nI j) (hj : j < n) (hn : n < 2147483648) (r : RQ G mX12_reckonAll d 63 [x0, x1, x2, x3, x4] (.int (f j) :: S) (h) P) : RQ G mX12_reckonAll d 62 [x0, x1, x2, x3, x4] (.int x :: .ref a :: S) h P := q_iald (M := mX12_reckonAll) (pc := 62) dX12_reckonAll_62 ha hx hj hn r
theorem tX12_reckonAll_63 {x : Int32} (hP : P (.inl (some (.int x))) h) : RQ G mX12_reckonAll d 63 [x0, x1, x2, x3, x4] ([.int x]) h P := q_ireturn (M := mX12_reckonAll) (pc := 63) (ty := .int) dX12_reckonAll_63 rfl rfl hP
end T
theorem dX12_ruleOf_0 : decode cX12_ruleOf 0 = .ok (.aload_n 0, 1) := by decide +kernel
theorem dX12_ruleOf_1 : decode cX12_ruleOf 1 = .ok (.getfield 41, 3) := by decide +kernel
theorem dX12_ruleOf_4 : decode cX12_ruleOf 4 = .ok (.getfield 281, 3) := by decide +kernel
theorem dX12_ruleOf_7 : decode cX12_ruleOf 7 = .ok (.iload_n 1, 1) := by decide +kernel
theorem dX12_ruleOf_8 : decode cX12_ruleOf 8 = .ok (.iaload, 1) := by decide +kernel
theorem dX12_ruleOf_9 : decode cX12_ruleOf 9 = .ok (.istore_n 2, 1) := by decide +kernel
theorem dX12_ruleOf_10 : decode cX12_ruleOf 10 = .ok (.iload_n 2, 1) := by decide +kernel
theorem dX12_ruleOf_11 : decode cX12_ruleOf 11 = .ok (.aload_n 0, 1) := by decide +kernel
theorem dX12_ruleOf_12 : decode cX12_ruleOf 12 = .ok (.getfield 41, 3) := by decide +kernel
theorem dX12_ruleOf_15 : decode cX12_ruleOf 15 = .ok (.getfield 287, 3) := by decide +kernel
theorem dX12_ruleOf_18 : decode cX12_ruleOf 18 = .ok (.iload_n 1, 1) := by decide +kernel
theorem dX12_ruleOf_19 : decode cX12_ruleOf 19 = .ok (.iaload, 1) := by decide +kernel
theorem dX12_ruleOf_20 : decode cX12_ruleOf 20 = .ok (.if_icmp .ge 38, 3) := by decide +kernel
theorem dX12_ruleOf_23 : decode cX12_ruleOf 23 = .ok (.aload_n 0, 1) := by decide +kernel
theorem dX12_ruleOf_24 : decode cX12_ruleOf 24 = .ok (.iload_n 1, 1) := by decide +kernel
theorem dX12_ruleOf_25 : decode cX12_ruleOf 25 = .ok (.aload_n 0, 1) := by decide +kernel
theorem dX12_ruleOf_26 : decode cX12_ruleOf 26 = .ok (.getfield 41, 3) := by decide +kernel
theorem dX12_ruleOf_29 : decode cX12_ruleOf 29 = .ok (.getfield 239, 3) := by decide +kernel
theorem dX12_ruleOf_32 : decode cX12_ruleOf 32 = .ok (.iload_n 2, 1) := by decide +kernel
theorem dX12_ruleOf_33 : decode cX12_ruleOf 33 = .ok (.iaload, 1) := by decide +kernel
theorem dX12_ruleOf_34 : decode cX12_ruleOf 34 = .ok (.aload_n 0, 1) := by decide +kernel
theorem dX12_ruleOf_35 : decode cX12_ruleOf 35 = .ok (.getfield 41, 3) := by decide +kernel
theorem dX12_ruleOf_38 : decode cX12_ruleOf 38 = .ok (.getfield 242, 3) := by decide +kernel
theorem dX12_ruleOf_41 : decode cX12_ruleOf 41 = .ok (.iload_n 2, 1) := by decide +kernel
theorem dX12_ruleOf_42 : decode cX12_ruleOf 42 = .ok (.iaload, 1) := by decide +kernel
theorem dX12_ruleOf_43 : decode cX12_ruleOf 43 = .ok (.invokevirtual 361, 3) := by decide +kernel
theorem dX12_ruleOf_46 : decode cX12_ruleOf 46 = .ok (.iconst 1, 1) := by decide +kernel
theorem dX12_ruleOf_47 : decode cX12_ruleOf 47 = .ok (.if_icmp .ne 5, 3) := by decide +kernel
theorem dX12_ruleOf_50 : decode cX12_ruleOf 50 = .ok (.iload_n 2, 1) := by decide +kernel
theorem dX12_ruleOf_51 : decode cX12_ruleOf 51 = .ok (.ireturn, 1) := by decide +kernel
theorem dX12_ruleOf_52 : decode cX12_ruleOf 52 = .ok (.iinc 2 1, 3) := by decide +kernel
theorem dX12_ruleOf_55 : decode cX12_ruleOf 55 = .ok (.goto (-45), 3) := by decide +kernel
theorem dX12_ruleOf_58 : decode cX12_ruleOf 58 = .ok (.iconst (-1), 1) := by decide +kernel
theorem dX12_ruleOf_59 : decode cX12_ruleOf 59 = .ok (.ireturn, 1) := by decide +kernel
section T
variable {G : GT} {d : Nat} {S : List Value} {h : AH} {P : OC → AH → Prop} {x0 x1 x2 x3 x4 x5 x6 x7 x8 x9 x10 x11 x12 x13 x14 x15 : Option Value}
theorem tX12_ruleOf_0 {k : Nat} (r : RQ G mX12_ruleOf d 1 [some (.ref k), x1, x2] (.ref k :: S) (h) P) : RQ G mX12_ruleOf d 0 [some (.ref k), x1, x2] (S) h P := q_aload_n (M := mX12_ruleOf) (pc := 0) (r0 := some k) dX12_ruleOf_0 rfl rfl r
theorem tX12_ruleOf_1 {i : Nat} {vs : List Value} {v : Value} (ha : At h i (.inr (10, vs))) (hv : vs[17]? = some v) (r : RQ G mX12_ruleOf d 4 [x0, x1, x2] (v :: S) (h) P) : RQ G mX12_ruleOf d 1 [x0, x1, x2] (.ref i :: S) h P := q_get (M := mX12_ruleOf) (pc := 1) (kf := 17) dX12_ruleOf_1 (show CL[10]? = some (RX12, TX12, 25) from rfl) inA12 (by decide) rfl w1440 ha hv r
theorem tX12_ruleOf_4 {i : Nat} {vs : List Value} {v : Value} (ha : At h i (.inr (9, vs))) (hv : vs[8]? = some v) (r : RQ G mX12_ruleOf d 7 [x0, x1, x2] (v :: S) (h) P) : RQ G mX12_ruleOf d 4 [x0, x1, x2] (.ref i :: S) h P := q_getN (M := mX12_ruleOf) (pc := 4) (kf := 8) dX12_ruleOf_4 (show CL[9]? = some (RX11, TX11, 24) from rfl) inA11 (by decide) rfl v1336 ha hv r
theorem tX12_ruleOf_7 {v : Int32} (r : RQ G mX12_ruleOf d 8 [x0, some (.int v), x2] (.int v :: S) (h) P) : RQ G mX12_ruleOf d 7 [x0, some (.int v), x2] (S) h P := q_iload_n (M := mX12_ruleOf) (pc := 7) dX12_ruleOf_7 rfl rfl r
theorem tX12_ruleOf_8 {a n j : Nat} {x : Int32} {f : Nat → Int32} (ha : At h a (.inl (0, n, .inl f))) (hx : x = nI j) (hj : j < n) (hn : n < 2147483648) (r : RQ G mX12_ruleOf d 9 [x0, x1, x2] (.int (f j) :: S) (h) P) : RQ G mX12_ruleOf d 8 [x0, x1, x2] (.int x :: .ref a :: S) h P := q_iald (M := mX12_ruleOf) (pc := 8) dX12_ruleOf_8 ha hx hj hn r
theorem tX12_ruleOf_9 {v : Int32} (ho : ok1 x1 = true := by rfl) (r : RQ G mX12_ruleOf d 10 [x0, x1, some (.int v)] (S) (h) P) : RQ G mX12_ruleOf d 9 [x0, x1, x2] (.int v :: S) h P := q_istore_n (M := mX12_ruleOf) (pc := 9) dX12_ruleOf_9 rfl (Nat.le_of_ble_eq_true rfl) ho r
theorem tX12_ruleOf_10 {v : Int32} (r : RQ G mX12_ruleOf d 11 [x0, x1, some (.int v)] (.int v :: S) (h) P) : RQ G mX12_ruleOf d 10 [x0, x1, some (.int v)] (S) h P := q_iload_n (M := mX12_ruleOf) (pc := 10) dX12_ruleOf_10 rfl rfl r
theorem tX12_ruleOf_11 {k : Nat} (r : RQ G mX12_ruleOf d 12 [some (.ref k), x1, x2] (.ref k :: S) (h) P) : RQ G mX12_ruleOf d 11 [some (.ref k), x1, x2] (S) h P := q_aload_n (M := mX12_ruleOf) (pc := 11) (r0 := some k) dX12_ruleOf_11 rfl rfl r
theorem tX12_ruleOf_12 {i : Nat} {vs : List Value} {v : Value} (ha : At h i (.inr (10, vs))) (hv : vs[17]? = some v) (r : RQ G mX12_ruleOf d 15 [x0, x1, x2] (v :: S) (h) P) : RQ G mX12_ruleOf d 12 [x0, x1, x2] (.ref i :: S) h P := q_get (M := mX12_ruleOf) (pc := 12) (kf := 17) dX12_ruleOf_12 (show CL[10]? = some (RX12, TX12, 25) from rfl) inA12 (by decide) rfl w1440 ha hv r
theorem tX12_ruleOf_15 {i : Nat} {vs : List Value} {v : Value} (ha : At h i (.inr (9, vs))) (hv : vs[9]? = some v) (r : RQ G mX12_ruleOf d 18 [x0, x1, x2] (v :: S) (h) P) : RQ G mX12_ruleOf d 15 [x0, x1, x2] (.ref i :: S) h P := q_getN (M := mX12_ruleOf) (pc := 15) (kf := 9) dX12_ruleOf_15 (show CL[9]? = some (RX11, TX11, 24) from rfl) inA11 (by decide) rfl v1338 ha hv r
theorem tX12_ruleOf_18 {v : Int32} (r : RQ G mX12_ruleOf d 19 [x0, some (.int v), x2] (.int v :: S) (h) P) : RQ G mX12_ruleOf d 18 [x0, some (.int v), x2] (S) h P := q_iload_n (M := mX12_ruleOf) (pc := 18) dX12_ruleOf_18 rfl rfl r
theorem tX12_ruleOf_19 {a n j : Nat} {x : Int32} {f : Nat → Int32} (ha : At h a (.inl (0, n, .inl f))) (hx : x = nI j) (hj : j < n) (hn : n < 2147483648) (r : RQ G mX12_ruleOf d 20 [x0, x1, x2] (.int (f j) :: S) (h) P) : RQ G mX12_ruleOf d 19 [x0, x1, x2] (.int x :: .ref a :: S) h P := q_iald (M := mX12_ruleOf) (pc := 19) dX12_ruleOf_19 ha hx hj hn r
theorem tX12_ruleOf_20 {x y : Int32} (kt : y ≤ x → RQ G mX12_ruleOf d 58 [x0, x1, x2] S h P) (kf : ¬ y ≤ x → RQ G mX12_ruleOf d 23 [x0, x1, x2] S h P) : RQ G mX12_ruleOf d 20 [x0, x1, x2] (.int y :: .int x :: S) h P := q_icmp_ge (M := mX12_ruleOf) (pc := 20) dX12_ruleOf_20 (by decide) kt kf
theorem tX12_ruleOf_23 {k : Nat} (r : RQ G mX12_ruleOf d 24 [some (.ref k), x1, x2] (.ref k :: S) (h) P) : RQ G mX12_ruleOf d 23 [some (.ref k), x1, x2] (S) h P := q_aload_n (M := mX12_ruleOf) (pc := 23) (r0 := some k) dX12_ruleOf_23 rfl rfl r
theorem tX12_ruleOf_24 {v : Int32} (r : RQ G mX12_ruleOf d 25 [x0, some (.int v), x2] (.int v :: S) (h) P) : RQ G mX12_ruleOf d 24 [x0, some (.int v), x2] (S) h P := q_iload_n (M := mX12_ruleOf) (pc := 24) dX12_ruleOf_24 rfl rfl r
theorem tX12_ruleOf_25 {k : Nat} (r : RQ G mX12_ruleOf d 26 [some (.ref k), x1, x2] (.ref k :: S) (h) P) : RQ G mX12_ruleOf d 25 [some (.ref k), x1, x2] (S) h P := q_aload_n (M := mX12_ruleOf) (pc := 25) (r0 := some k) dX12_ruleOf_25 rfl rfl r
theorem tX12_ruleOf_26 {i : Nat} {vs : List Value} {v : Value} (ha : At h i (.inr (10, vs))) (hv : vs[17]? = some v) (r : RQ G mX12_ruleOf d 29 [x0, x1, x2] (v :: S) (h) P) : RQ G mX12_ruleOf d 26 [x0, x1, x2] (.ref i :: S) h P := q_get (M := mX12_ruleOf) (pc := 26) (kf := 17) dX12_ruleOf_26 (show CL[10]? = some (RX12, TX12, 25) from rfl) inA12 (by decide) rfl w1440 ha hv r
theorem tX12_ruleOf_29 {i : Nat} {vs : List Value} {v : Value} (ha : At h i (.inr (9, vs))) (hv : vs[11]? = some v) (r : RQ G mX12_ruleOf d 32 [x0, x1, x2] (v :: S) (h) P) : RQ G mX12_ruleOf d 29 [x0, x1, x2] (.ref i :: S) h P := q_getN (M := mX12_ruleOf) (pc := 29) (kf := 11) dX12_ruleOf_29 (show CL[9]? = some (RX11, TX11, 24) from rfl) inA11 (by decide) rfl v1342 ha hv r
theorem tX12_ruleOf_32 {v : Int32} (r : RQ G mX12_ruleOf d 33 [x0, x1, some (.int v)] (.int v :: S) (h) P) : RQ G mX12_ruleOf d 32 [x0, x1, some (.int v)] (S) h P := q_iload_n (M := mX12_ruleOf) (pc := 32) dX12_ruleOf_32 rfl rfl r
theorem tX12_ruleOf_33 {a n j : Nat} {x : Int32} {f : Nat → Int32} (ha : At h a (.inl (0, n, .inl f))) (hx : x = nI j) (hj : j < n) (hn : n < 2147483648) (r : RQ G mX12_ruleOf d 34 [x0, x1, x2] (.int (f j) :: S) (h) P) : RQ G mX12_ruleOf d 33 [x0, x1, x2] (.int x :: .ref a :: S) h P := q_iald (M := mX12_ruleOf) (pc := 33) dX12_ruleOf_33 ha hx hj hn r
theorem tX12_ruleOf_34 {k : Nat} (r : RQ G mX12_ruleOf d 35 [some (.ref k), x1, x2] (.ref k :: S) (h) P) : RQ G mX12_ruleOf d 34 [some (.ref k), x1, x2] (S) h P := q_aload_n (M := mX12_ruleOf) (pc := 34) (r0 := some k) dX12_ruleOf_34 rfl rfl r
theorem tX12_ruleOf_35 {i : Nat} {vs : List Value} {v : Value} (ha : At h i (.inr (10, vs))) (hv : vs[17]? = some v) (r : RQ G mX12_ruleOf d 38 [x0, x1, x2] (v :: S) (h) P) : RQ G mX12_ruleOf d 35 [x0, x1, x2] (.ref i :: S) h P := q_get (M := mX12_ruleOf) (pc := 35) (kf := 17) dX12_ruleOf_35 (show CL[10]? = some (RX12, TX12, 25) from rfl) inA12 (by decide) rfl w1440 ha hv r
theorem tX12_ruleOf_38 {i : Nat} {vs : List Value} {v : Value} (ha : At h i (.inr (9, vs))) (hv : vs[12]? = some v) (r : RQ G mX12_ruleOf d 41 [x0, x1, x2] (v :: S) (h) P) : RQ G mX12_ruleOf d 38 [x0, x1, x2] (.ref i :: S) h P := q_getN (M := mX12_ruleOf) (pc := 38) (kf := 12) dX12_ruleOf_38 (show CL[9]? = some (RX11, TX11, 24) from rfl) inA11 (by decide) rfl v1344 ha hv r
theorem tX12_ruleOf_41 {v : Int32} (r : RQ G mX12_ruleOf d 42 [x0, x1, some (.int v)] (.int v :: S) (h) P) : RQ G mX12_ruleOf d 41 [x0, x1, some (.int v)] (S) h P := q_iload_n (M := mX12_ruleOf) (pc := 41) dX12_ruleOf_41 rfl rfl r
theorem tX12_ruleOf_42 {a n j : Nat} {x : Int32} {f : Nat → Int32} (ha : At h a (.inl (0, n, .inl f))) (hx : x = nI j) (hj : j < n) (hn : n < 2147483648) (r : RQ G mX12_ruleOf d 43 [x0, x1, x2] (.int (f j) :: S) (h) P) : RQ G mX12_ruleOf d 42 [x0, x1, x2] (.int x :: .ref a :: S) h P := q_iald (M := mX12_ruleOf) (pc := 42) dX12_ruleOf_42 ha hx hj hn r
theorem tX12_ruleOf_43 {b d2 : Nat} {vs : List Value} {a0 : Int32} {a1 : Int32} {a2 : Int32} {Q : Int32 → AH → Prop} (hd : d2 + 1 ≤ d) (ha : At h b (.inr (10, vs))) (call : RQ G mX12_reckonAll d2 0 [some (.ref b), some (.int a0), some (.int a1), some (.int a2), none] [] h (Ri Q)) (k : ∀ x h1, Q x h1 → RQ G mX12_ruleOf d 46 [x0, x1, x2] (.int x :: S) h1 P) (hst : (S.map fun v => v.category).sum ≤ 8 := by exact Nat.le_of_ble_eq_true rfl)  : RQ G mX12_ruleOf d 43 [x0, x1, x2] (.int a2 :: .int a1 :: .int a0 :: .ref b :: S) h P := q_callV (M := mX12_ruleOf) (pc := 43) (M2 := mX12_reckonAll) (As := [.int a0, .int a1, .int a2]) (n := 3) dX12_ruleOf_43 rfl ⟨by decide, by decide, by decide, rfl⟩ rfl w1857 w1859 w96 w120 w1860 (show CL[10]? = some (RX12, TX12, 25) from rfl) hd (by decide) (Nat.le_of_ble_eq_true rfl) rfl ha hst call (callk_i k)
theorem tX12_ruleOf_46 (r : RQ G mX12_ruleOf d 47 [x0, x1, x2] (.int (nI 1) :: S) (h) P) : RQ G mX12_ruleOf d 46 [x0, x1, x2] (S) h P := q_iconst (M := mX12_ruleOf) (pc := 46) dX12_ruleOf_46 (by decide) r
theorem tX12_ruleOf_47 {x y : Int32} (kt : ¬ x = y → RQ G mX12_ruleOf d 52 [x0, x1, x2] S h P) (kf : x = y → RQ G mX12_ruleOf d 50 [x0, x1, x2] S h P) : RQ G mX12_ruleOf d 47 [x0, x1, x2] (.int y :: .int x :: S) h P := q_icmp_ne (M := mX12_ruleOf) (pc := 47) dX12_ruleOf_47 (by decide) kt kf
theorem tX12_ruleOf_50 {v : Int32} (r : RQ G mX12_ruleOf d 51 [x0, x1, some (.int v)] (.int v :: S) (h) P) : RQ G mX12_ruleOf d 50 [x0, x1, some (.int v)] (S) h P := q_iload_n (M := mX12_ruleOf) (pc := 50) dX12_ruleOf_50 rfl rfl r
theorem tX12_ruleOf_51 {x : Int32} (hP : P (.inl (some (.int x))) h) : RQ G mX12_ruleOf d 51 [x0, x1, x2] ([.int x]) h P := q_ireturn (M := mX12_ruleOf) (pc := 51) (ty := .int) dX12_ruleOf_51 rfl rfl hP
theorem tX12_ruleOf_52 {v : Int32} (ho : ok1 x1 = true := by rfl) (r : RQ G mX12_ruleOf d 55 [x0, x1, some (.int (v + (nI 1)))] (S) (h) P) : RQ G mX12_ruleOf d 52 [x0, x1, some (.int v)] (S) h P := q_iinc (M := mX12_ruleOf) (pc := 52) dX12_ruleOf_52 rfl (congrArg (v + ·) (show Int32.ofInt (1) = (nI 1) by decide)) (Nat.le_of_ble_eq_true rfl) ho r
theorem tX12_ruleOf_55 (r : RQ G mX12_ruleOf d 10 [x0, x1, x2] S h P) : RQ G mX12_ruleOf d 55 [x0, x1, x2] (S) h P := q_goto (M := mX12_ruleOf) (pc := 55) dX12_ruleOf_55 (by decide) r
theorem tX12_ruleOf_58 (r : RQ G mX12_ruleOf d 59 [x0, x1, x2] (.int (-1) :: S) (h) P) : RQ G mX12_ruleOf d 58 [x0, x1, x2] (S) h P := q_iconst (M := mX12_ruleOf) (pc := 58) dX12_ruleOf_58 (by decide) r
theorem tX12_ruleOf_59 {x : Int32} (hP : P (.inl (some (.int x))) h) : RQ G mX12_ruleOf d 59 [x0, x1, x2] ([.int x]) h P := q_ireturn (M := mX12_ruleOf) (pc := 59) (ty := .int) dX12_ruleOf_59 rfl rfl hP
end T
theorem dX12_doIt_0 : decode cX12_doIt 0 = .ok (.aload_n 0, 1) := by decide +kernel
theorem dX12_doIt_1 : decode cX12_doIt 1 = .ok (.getfield 41, 3) := by decide +kernel
theorem dX12_doIt_4 : decode cX12_doIt 4 = .ok (.getfield 278, 3) := by decide +kernel
theorem dX12_doIt_7 : decode cX12_doIt 7 = .ok (.iload_n 1, 1) := by decide +kernel
theorem dX12_doIt_8 : decode cX12_doIt 8 = .ok (.iaload, 1) := by decide +kernel
theorem dX12_doIt_9 : decode cX12_doIt 9 = .ok (.istore_n 3, 1) := by decide +kernel
theorem dX12_doIt_10 : decode cX12_doIt 10 = .ok (.aload_n 0, 1) := by decide +kernel
theorem dX12_doIt_11 : decode cX12_doIt 11 = .ok (.getfield 41, 3) := by decide +kernel
theorem dX12_doIt_14 : decode cX12_doIt 14 = .ok (.getfield 233, 3) := by decide +kernel
theorem dX12_doIt_17 : decode cX12_doIt 17 = .ok (.iload_n 2, 1) := by decide +kernel
theorem dX12_doIt_18 : decode cX12_doIt 18 = .ok (.iaload, 1) := by decide +kernel
theorem dX12_doIt_19 : decode cX12_doIt 19 = .ok (.istore 4, 2) := by decide +kernel
theorem dX12_doIt_21 : decode cX12_doIt 21 = .ok (.aload_n 0, 1) := by decide +kernel
theorem dX12_doIt_22 : decode cX12_doIt 22 = .ok (.getfield 41, 3) := by decide +kernel
theorem dX12_doIt_25 : decode cX12_doIt 25 = .ok (.getfield 224, 3) := by decide +kernel
theorem dX12_doIt_28 : decode cX12_doIt 28 = .ok (.iload_n 2, 1) := by decide +kernel
theorem dX12_doIt_29 : decode cX12_doIt 29 = .ok (.iaload, 1) := by decide +kernel
theorem dX12_doIt_30 : decode cX12_doIt 30 = .ok (.tableswitch 131 9 13 #[34, 131, 77, 91, 107], 34) := by decide +kernel
theorem dX12_doIt_64 : decode cX12_doIt 64 = .ok (.aload_n 0, 1) := by decide +kernel
theorem dX12_doIt_65 : decode cX12_doIt 65 = .ok (.aload_n 0, 1) := by decide +kernel
theorem dX12_doIt_66 : decode cX12_doIt 66 = .ok (.getfield 51, 3) := by decide +kernel
theorem dX12_doIt_69 : decode cX12_doIt 69 = .ok (.bipush 55, 2) := by decide +kernel
theorem dX12_doIt_71 : decode cX12_doIt 71 = .ok (.iload_n 1, 1) := by decide +kernel
theorem dX12_doIt_72 : decode cX12_doIt 72 = .ok (.iadd, 1) := by decide +kernel
theorem dX12_doIt_73 : decode cX12_doIt 73 = .ok (.iaload, 1) := by decide +kernel
theorem dX12_doIt_74 : decode cX12_doIt 74 = .ok (.iload 4, 2) := by decide +kernel
theorem dX12_doIt_76 : decode cX12_doIt 76 = .ok (.iload_n 3, 1) := by decide +kernel
theorem dX12_doIt_77 : decode cX12_doIt 77 = .ok (.aload_n 0, 1) := by decide +kernel
theorem dX12_doIt_78 : decode cX12_doIt 78 = .ok (.iload_n 1, 1) := by decide +kernel
theorem dX12_doIt_79 : decode cX12_doIt 79 = .ok (.aload_n 0, 1) := by decide +kernel
theorem dX12_doIt_80 : decode cX12_doIt 80 = .ok (.getfield 41, 3) := by decide +kernel
theorem dX12_doIt_83 : decode cX12_doIt 83 = .ok (.getfield 227, 3) := by decide +kernel
theorem dX12_doIt_86 : decode cX12_doIt 86 = .ok (.iload_n 2, 1) := by decide +kernel
theorem dX12_doIt_87 : decode cX12_doIt 87 = .ok (.iaload, 1) := by decide +kernel
theorem dX12_doIt_88 : decode cX12_doIt 88 = .ok (.aload_n 0, 1) := by decide +kernel
theorem dX12_doIt_89 : decode cX12_doIt 89 = .ok (.getfield 41, 3) := by decide +kernel
theorem dX12_doIt_92 : decode cX12_doIt 92 = .ok (.getfield 230, 3) := by decide +kernel
theorem dX12_doIt_95 : decode cX12_doIt 95 = .ok (.iload_n 2, 1) := by decide +kernel
theorem dX12_doIt_96 : decode cX12_doIt 96 = .ok (.iaload, 1) := by decide +kernel
theorem dX12_doIt_97 : decode cX12_doIt 97 = .ok (.invokevirtual 361, 3) := by decide +kernel
theorem dX12_doIt_100 : decode cX12_doIt 100 = .ok (.invokevirtual 364, 3) := by decide +kernel
theorem dX12_doIt_103 : decode cX12_doIt 103 = .ok (.pop, 1) := by decide +kernel
theorem dX12_doIt_104 : decode cX12_doIt 104 = .ok (.goto 67, 3) := by decide +kernel
theorem dX12_doIt_107 : decode cX12_doIt 107 = .ok (.aload_n 0, 1) := by decide +kernel
theorem dX12_doIt_108 : decode cX12_doIt 108 = .ok (.getfield 51, 3) := by decide +kernel
theorem dX12_doIt_111 : decode cX12_doIt 111 = .ok (.bipush 55, 2) := by decide +kernel
theorem dX12_doIt_113 : decode cX12_doIt 113 = .ok (.iload_n 1, 1) := by decide +kernel
theorem dX12_doIt_114 : decode cX12_doIt 114 = .ok (.iadd, 1) := by decide +kernel
theorem dX12_doIt_115 : decode cX12_doIt 115 = .ok (.iload 4, 2) := by decide +kernel
theorem dX12_doIt_117 : decode cX12_doIt 117 = .ok (.iastore, 1) := by decide +kernel
theorem dX12_doIt_118 : decode cX12_doIt 118 = .ok (.goto 53, 3) := by decide +kernel
theorem dX12_doIt_121 : decode cX12_doIt 121 = .ok (.aload_n 0, 1) := by decide +kernel
theorem dX12_doIt_122 : decode cX12_doIt 122 = .ok (.aload_n 0, 1) := by decide +kernel
theorem dX12_doIt_123 : decode cX12_doIt 123 = .ok (.getfield 51, 3) := by decide +kernel
theorem dX12_doIt_126 : decode cX12_doIt 126 = .ok (.bipush 55, 2) := by decide +kernel
theorem dX12_doIt_128 : decode cX12_doIt 128 = .ok (.iload_n 1, 1) := by decide +kernel
theorem dX12_doIt_129 : decode cX12_doIt 129 = .ok (.iadd, 1) := by decide +kernel
theorem dX12_doIt_130 : decode cX12_doIt 130 = .ok (.iaload, 1) := by decide +kernel
theorem dX12_doIt_131 : decode cX12_doIt 131 = .ok (.invokevirtual 367, 3) := by decide +kernel
theorem dX12_doIt_134 : decode cX12_doIt 134 = .ok (.goto 37, 3) := by decide +kernel
theorem dX12_doIt_137 : decode cX12_doIt 137 = .ok (.aload_n 0, 1) := by decide +kernel
theorem dX12_doIt_138 : decode cX12_doIt 138 = .ok (.iload_n 3, 1) := by decide +kernel
theorem dX12_doIt_139 : decode cX12_doIt 139 = .ok (.iload 4, 2) := by decide +kernel
theorem dX12_doIt_141 : decode cX12_doIt 141 = .ok (.invokevirtual 370, 3) := by decide +kernel
theorem dX12_doIt_144 : decode cX12_doIt 144 = .ok (.ifCond .eq 27, 3) := by decide +kernel
theorem dX12_doIt_147 : decode cX12_doIt 147 = .ok (.aload_n 0, 1) := by decide +kernel
theorem dX12_doIt_148 : decode cX12_doIt 148 = .ok (.getfield 51, 3) := by decide +kernel
theorem dX12_doIt_151 : decode cX12_doIt 151 = .ok (.bipush 49, 2) := by decide +kernel
theorem dX12_doIt_153 : decode cX12_doIt 153 = .ok (.iload_n 3, 1) := by decide +kernel
theorem dX12_doIt_154 : decode cX12_doIt 154 = .ok (.iadd, 1) := by decide +kernel
theorem dX12_doIt_155 : decode cX12_doIt 155 = .ok (.iload 4, 2) := by decide +kernel
theorem dX12_doIt_157 : decode cX12_doIt 157 = .ok (.iastore, 1) := by decide +kernel
theorem dX12_doIt_158 : decode cX12_doIt 158 = .ok (.goto 13, 3) := by decide +kernel
theorem dX12_doIt_161 : decode cX12_doIt 161 = .ok (.aload_n 0, 1) := by decide +kernel
theorem dX12_doIt_162 : decode cX12_doIt 162 = .ok (.getfield 51, 3) := by decide +kernel
theorem dX12_doIt_165 : decode cX12_doIt 165 = .ok (.bipush 49, 2) := by decide +kernel
theorem dX12_doIt_167 : decode cX12_doIt 167 = .ok (.iload_n 3, 1) := by decide +kernel
theorem dX12_doIt_168 : decode cX12_doIt 168 = .ok (.iadd, 1) := by decide +kernel
theorem dX12_doIt_169 : decode cX12_doIt 169 = .ok (.iconst (-1), 1) := by decide +kernel
theorem dX12_doIt_170 : decode cX12_doIt 170 = .ok (.iastore, 1) := by decide +kernel
theorem dX12_doIt_171 : decode cX12_doIt 171 = .ok (.return_, 1) := by decide +kernel
section T
variable {G : GT} {d : Nat} {S : List Value} {h : AH} {P : OC → AH → Prop} {x0 x1 x2 x3 x4 x5 x6 x7 x8 x9 x10 x11 x12 x13 x14 x15 : Option Value}
theorem tX12_doIt_0 {k : Nat} (r : RQ G mX12_doIt d 1 [some (.ref k), x1, x2, x3, x4] (.ref k :: S) (h) P) : RQ G mX12_doIt d 0 [some (.ref k), x1, x2, x3, x4] (S) h P := q_aload_n (M := mX12_doIt) (pc := 0) (r0 := some k) dX12_doIt_0 rfl rfl r
theorem tX12_doIt_1 {i : Nat} {vs : List Value} {v : Value} (ha : At h i (.inr (10, vs))) (hv : vs[17]? = some v) (r : RQ G mX12_doIt d 4 [x0, x1, x2, x3, x4] (v :: S) (h) P) : RQ G mX12_doIt d 1 [x0, x1, x2, x3, x4] (.ref i :: S) h P := q_get (M := mX12_doIt) (pc := 1) (kf := 17) dX12_doIt_1 (show CL[10]? = some (RX12, TX12, 25) from rfl) inA12 (by decide) rfl w1440 ha hv r
theorem tX12_doIt_4 {i : Nat} {vs : List Value} {v : Value} (ha : At h i (.inr (9, vs))) (hv : vs[7]? = some v) (r : RQ G mX12_doIt d 7 [x0, x1, x2, x3, x4] (v :: S) (h) P) : RQ G mX12_doIt d 4 [x0, x1, x2, x3, x4] (.ref i :: S) h P := q_getN (M := mX12_doIt) (pc := 4) (kf := 7) dX12_doIt_4 (show CL[9]? = some (RX11, TX11, 24) from rfl) inA11 (by decide) rfl v1334 ha hv r
theorem tX12_doIt_7 {v : Int32} (r : RQ G mX12_doIt d 8 [x0, some (.int v), x2, x3, x4] (.int v :: S) (h) P) : RQ G mX12_doIt d 7 [x0, some (.int v), x2, x3, x4] (S) h P := q_iload_n (M := mX12_doIt) (pc := 7) dX12_doIt_7 rfl rfl r
theorem tX12_doIt_8 {a n j : Nat} {x : Int32} {f : Nat → Int32} (ha : At h a (.inl (0, n, .inl f))) (hx : x = nI j) (hj : j < n) (hn : n < 2147483648) (r : RQ G mX12_doIt d 9 [x0, x1, x2, x3, x4] (.int (f j) :: S) (h) P) : RQ G mX12_doIt d 8 [x0, x1, x2, x3, x4] (.int x :: .ref a :: S) h P := q_iald (M := mX12_doIt) (pc := 8) dX12_doIt_8 ha hx hj hn r
theorem tX12_doIt_9 {v : Int32} (ho : ok1 x2 = true := by rfl) (r : RQ G mX12_doIt d 10 [x0, x1, x2, some (.int v), x4] (S) (h) P) : RQ G mX12_doIt d 9 [x0, x1, x2, x3, x4] (.int v :: S) h P := q_istore_n (M := mX12_doIt) (pc := 9) dX12_doIt_9 rfl (Nat.le_of_ble_eq_true rfl) ho r
theorem tX12_doIt_10 {k : Nat} (r : RQ G mX12_doIt d 11 [some (.ref k), x1, x2, x3, x4] (.ref k :: S) (h) P) : RQ G mX12_doIt d 10 [some (.ref k), x1, x2, x3, x4] (S) h P := q_aload_n (M := mX12_doIt) (pc := 10) (r0 := some k) dX12_doIt_10 rfl rfl r
theorem tX12_doIt_11 {i : Nat} {vs : List Value} {v : Value} (ha : At h i (.inr (10, vs))) (hv : vs[17]? = some v) (r : RQ G mX12_doIt d 14 [x0, x1, x2, x3, x4] (v :: S) (h) P) : RQ G mX12_doIt d 11 [x0, x1, x2, x3, x4] (.ref i :: S) h P := q_get (M := mX12_doIt) (pc := 11) (kf := 17) dX12_doIt_11 (show CL[10]? = some (RX12, TX12, 25) from rfl) inA12 (by decide) rfl w1440 ha hv r
theorem tX12_doIt_14 {i : Nat} {vs : List Value} {v : Value} (ha : At h i (.inr (9, vs))) (hv : vs[17]? = some v) (r : RQ G mX12_doIt d 17 [x0, x1, x2, x3, x4] (v :: S) (h) P) : RQ G mX12_doIt d 14 [x0, x1, x2, x3, x4] (.ref i :: S) h P := q_getN (M := mX12_doIt) (pc := 14) (kf := 17) dX12_doIt_14 (show CL[9]? = some (RX11, TX11, 24) from rfl) inA11 (by decide) rfl v1354 ha hv r
theorem tX12_doIt_17 {v : Int32} (r : RQ G mX12_doIt d 18 [x0, x1, some (.int v), x3, x4] (.int v :: S) (h) P) : RQ G mX12_doIt d 17 [x0, x1, some (.int v), x3, x4] (S) h P := q_iload_n (M := mX12_doIt) (pc := 17) dX12_doIt_17 rfl rfl r
theorem tX12_doIt_18 {a n j : Nat} {x : Int32} {f : Nat → Int32} (ha : At h a (.inl (0, n, .inl f))) (hx : x = nI j) (hj : j < n) (hn : n < 2147483648) (r : RQ G mX12_doIt d 19 [x0, x1, x2, x3, x4] (.int (f j) :: S) (h) P) : RQ G mX12_doIt d 18 [x0, x1, x2, x3, x4] (.int x :: .ref a :: S) h P := q_iald (M := mX12_doIt) (pc := 18) dX12_doIt_18 ha hx hj hn r
theorem tX12_doIt_19 {v : Int32} (ho : ok1 x3 = true := by rfl) (r : RQ G mX12_doIt d 21 [x0, x1, x2, x3, some (.int v)] (S) (h) P) : RQ G mX12_doIt d 19 [x0, x1, x2, x3, x4] (.int v :: S) h P := q_istore (M := mX12_doIt) (pc := 19) dX12_doIt_19 (Nat.le_of_ble_eq_true rfl) ho r
theorem tX12_doIt_21 {k : Nat} (r : RQ G mX12_doIt d 22 [some (.ref k), x1, x2, x3, x4] (.ref k :: S) (h) P) : RQ G mX12_doIt d 21 [some (.ref k), x1, x2, x3, x4] (S) h P := q_aload_n (M := mX12_doIt) (pc := 21) (r0 := some k) dX12_doIt_21 rfl rfl r
theorem tX12_doIt_22 {i : Nat} {vs : List Value} {v : Value} (ha : At h i (.inr (10, vs))) (hv : vs[17]? = some v) (r : RQ G mX12_doIt d 25 [x0, x1, x2, x3, x4] (v :: S) (h) P) : RQ G mX12_doIt d 22 [x0, x1, x2, x3, x4] (.ref i :: S) h P := q_get (M := mX12_doIt) (pc := 22) (kf := 17) dX12_doIt_22 (show CL[10]? = some (RX12, TX12, 25) from rfl) inA12 (by decide) rfl w1440 ha hv r
theorem tX12_doIt_25 {i : Nat} {vs : List Value} {v : Value} (ha : At h i (.inr (9, vs))) (hv : vs[16]? = some v) (r : RQ G mX12_doIt d 28 [x0, x1, x2, x3, x4] (v :: S) (h) P) : RQ G mX12_doIt d 25 [x0, x1, x2, x3, x4] (.ref i :: S) h P := q_getN (M := mX12_doIt) (pc := 25) (kf := 16) dX12_doIt_25 (show CL[9]? = some (RX11, TX11, 24) from rfl) inA11 (by decide) rfl v1352 ha hv r
theorem tX12_doIt_28 {v : Int32} (r : RQ G mX12_doIt d 29 [x0, x1, some (.int v), x3, x4] (.int v :: S) (h) P) : RQ G mX12_doIt d 28 [x0, x1, some (.int v), x3, x4] (S) h P := q_iload_n (M := mX12_doIt) (pc := 28) dX12_doIt_28 rfl rfl r
theorem tX12_doIt_29 {a n j : Nat} {x : Int32} {f : Nat → Int32} (ha : At h a (.inl (0, n, .inl f))) (hx : x = nI j) (hj : j < n) (hn : n < 2147483648) (r : RQ G mX12_doIt d 30 [x0, x1, x2, x3, x4] (.int (f j) :: S) (h) P) : RQ G mX12_doIt d 29 [x0, x1, x2, x3, x4] (.int x :: .ref a :: S) h P := q_iald (M := mX12_doIt) (pc := 29) dX12_doIt_29 ha hx hj hn r
theorem tX12_doIt_64 {k : Nat} (r : RQ G mX12_doIt d 65 [some (.ref k), x1, x2, x3, x4] (.ref k :: S) (h) P) : RQ G mX12_doIt d 64 [some (.ref k), x1, x2, x3, x4] (S) h P := q_aload_n (M := mX12_doIt) (pc := 64) (r0 := some k) dX12_doIt_64 rfl rfl r
theorem tX12_doIt_65 {k : Nat} (r : RQ G mX12_doIt d 66 [some (.ref k), x1, x2, x3, x4] (.ref k :: S) (h) P) : RQ G mX12_doIt d 65 [some (.ref k), x1, x2, x3, x4] (S) h P := q_aload_n (M := mX12_doIt) (pc := 65) (r0 := some k) dX12_doIt_65 rfl rfl r
theorem tX12_doIt_66 {i : Nat} {vs : List Value} {v : Value} (ha : At h i (.inr (10, vs))) (hv : vs[20]? = some v) (r : RQ G mX12_doIt d 69 [x0, x1, x2, x3, x4] (v :: S) (h) P) : RQ G mX12_doIt d 66 [x0, x1, x2, x3, x4] (.ref i :: S) h P := q_get (M := mX12_doIt) (pc := 66) (kf := 20) dX12_doIt_66 (show CL[10]? = some (RX12, TX12, 25) from rfl) inA12 (by decide) rfl w1443 ha hv r
theorem tX12_doIt_69 (r : RQ G mX12_doIt d 71 [x0, x1, x2, x3, x4] (.int (nI 55) :: S) (h) P) : RQ G mX12_doIt d 69 [x0, x1, x2, x3, x4] (S) h P := q_bipush (M := mX12_doIt) (pc := 69) dX12_doIt_69 (by decide) r
theorem tX12_doIt_71 {v : Int32} (r : RQ G mX12_doIt d 72 [x0, some (.int v), x2, x3, x4] (.int v :: S) (h) P) : RQ G mX12_doIt d 71 [x0, some (.int v), x2, x3, x4] (S) h P := q_iload_n (M := mX12_doIt) (pc := 71) dX12_doIt_71 rfl rfl r
theorem tX12_doIt_72 {x y : Int32} (r : RQ G mX12_doIt d 73 [x0, x1, x2, x3, x4] (.int (x + y) :: S) (h) P) : RQ G mX12_doIt d 72 [x0, x1, x2, x3, x4] (.int y :: .int x :: S) h P := q_iadd (M := mX12_doIt) (pc := 72) dX12_doIt_72 r
theorem tX12_doIt_73 {a n j : Nat} {x : Int32} {f : Nat → Int32} (ha : At h a (.inl (0, n, .inl f))) (hx : x = nI j) (hj : j < n) (hn : n < 2147483648) (r : RQ G mX12_doIt d 74 [x0, x1, x2, x3, x4] (.int (f j) :: S) (h) P) : RQ G mX12_doIt d 73 [x0, x1, x2, x3, x4] (.int x :: .ref a :: S) h P := q_iald (M := mX12_doIt) (pc := 73) dX12_doIt_73 ha hx hj hn r
theorem tX12_doIt_74 {v : Int32} (r : RQ G mX12_doIt d 76 [x0, x1, x2, x3, some (.int v)] (.int v :: S) (h) P) : RQ G mX12_doIt d 74 [x0, x1, x2, x3, some (.int v)] (S) h P := q_iload (M := mX12_doIt) (pc := 74) dX12_doIt_74 rfl r
theorem tX12_doIt_76 {v : Int32} (r : RQ G mX12_doIt d 77 [x0, x1, x2, some (.int v), x4] (.int v :: S) (h) P) : RQ G mX12_doIt d 76 [x0, x1, x2, some (.int v), x4] (S) h P := q_iload_n (M := mX12_doIt) (pc := 76) dX12_doIt_76 rfl rfl r
theorem tX12_doIt_77 {k : Nat} (r : RQ G mX12_doIt d 78 [some (.ref k), x1, x2, x3, x4] (.ref k :: S) (h) P) : RQ G mX12_doIt d 77 [some (.ref k), x1, x2, x3, x4] (S) h P := q_aload_n (M := mX12_doIt) (pc := 77) (r0 := some k) dX12_doIt_77 rfl rfl r
theorem tX12_doIt_78 {v : Int32} (r : RQ G mX12_doIt d 79 [x0, some (.int v), x2, x3, x4] (.int v :: S) (h) P) : RQ G mX12_doIt d 78 [x0, some (.int v), x2, x3, x4] (S) h P := q_iload_n (M := mX12_doIt) (pc := 78) dX12_doIt_78 rfl rfl r
theorem tX12_doIt_79 {k : Nat} (r : RQ G mX12_doIt d 80 [some (.ref k), x1, x2, x3, x4] (.ref k :: S) (h) P) : RQ G mX12_doIt d 79 [some (.ref k), x1, x2, x3, x4] (S) h P := q_aload_n (M := mX12_doIt) (pc := 79) (r0 := some k) dX12_doIt_79 rfl rfl r
theorem tX12_doIt_80 {i : Nat} {vs : List Value} {v : Value} (ha : At h i (.inr (10, vs))) (hv : vs[17]? = some v) (r : RQ G mX12_doIt d 83 [x0, x1, x2, x3, x4] (v :: S) (h) P) : RQ G mX12_doIt d 80 [x0, x1, x2, x3, x4] (.ref i :: S) h P := q_get (M := mX12_doIt) (pc := 80) (kf := 17) dX12_doIt_80 (show CL[10]? = some (RX12, TX12, 25) from rfl) inA12 (by decide) rfl w1440 ha hv r
theorem tX12_doIt_83 {i : Nat} {vs : List Value} {v : Value} (ha : At h i (.inr (9, vs))) (hv : vs[18]? = some v) (r : RQ G mX12_doIt d 86 [x0, x1, x2, x3, x4] (v :: S) (h) P) : RQ G mX12_doIt d 83 [x0, x1, x2, x3, x4] (.ref i :: S) h P := q_getN (M := mX12_doIt) (pc := 83) (kf := 18) dX12_doIt_83 (show CL[9]? = some (RX11, TX11, 24) from rfl) inA11 (by decide) rfl v1356 ha hv r
theorem tX12_doIt_86 {v : Int32} (r : RQ G mX12_doIt d 87 [x0, x1, some (.int v), x3, x4] (.int v :: S) (h) P) : RQ G mX12_doIt d 86 [x0, x1, some (.int v), x3, x4] (S) h P := q_iload_n (M := mX12_doIt) (pc := 86) dX12_doIt_86 rfl rfl r
theorem tX12_doIt_87 {a n j : Nat} {x : Int32} {f : Nat → Int32} (ha : At h a (.inl (0, n, .inl f))) (hx : x = nI j) (hj : j < n) (hn : n < 2147483648) (r : RQ G mX12_doIt d 88 [x0, x1, x2, x3, x4] (.int (f j) :: S) (h) P) : RQ G mX12_doIt d 87 [x0, x1, x2, x3, x4] (.int x :: .ref a :: S) h P := q_iald (M := mX12_doIt) (pc := 87) dX12_doIt_87 ha hx hj hn r
theorem tX12_doIt_88 {k : Nat} (r : RQ G mX12_doIt d 89 [some (.ref k), x1, x2, x3, x4] (.ref k :: S) (h) P) : RQ G mX12_doIt d 88 [some (.ref k), x1, x2, x3, x4] (S) h P := q_aload_n (M := mX12_doIt) (pc := 88) (r0 := some k) dX12_doIt_88 rfl rfl r
theorem tX12_doIt_89 {i : Nat} {vs : List Value} {v : Value} (ha : At h i (.inr (10, vs))) (hv : vs[17]? = some v) (r : RQ G mX12_doIt d 92 [x0, x1, x2, x3, x4] (v :: S) (h) P) : RQ G mX12_doIt d 89 [x0, x1, x2, x3, x4] (.ref i :: S) h P := q_get (M := mX12_doIt) (pc := 89) (kf := 17) dX12_doIt_89 (show CL[10]? = some (RX12, TX12, 25) from rfl) inA12 (by decide) rfl w1440 ha hv r
theorem tX12_doIt_92 {i : Nat} {vs : List Value} {v : Value} (ha : At h i (.inr (9, vs))) (hv : vs[19]? = some v) (r : RQ G mX12_doIt d 95 [x0, x1, x2, x3, x4] (v :: S) (h) P) : RQ G mX12_doIt d 92 [x0, x1, x2, x3, x4] (.ref i :: S) h P := q_getN (M := mX12_doIt) (pc := 92) (kf := 19) dX12_doIt_92 (show CL[9]? = some (RX11, TX11, 24) from rfl) inA11 (by decide) rfl v1358 ha hv r
theorem tX12_doIt_95 {v : Int32} (r : RQ G mX12_doIt d 96 [x0, x1, some (.int v), x3, x4] (.int v :: S) (h) P) : RQ G mX12_doIt d 95 [x0, x1, some (.int v), x3, x4] (S) h P := q_iload_n (M := mX12_doIt) (pc := 95) dX12_doIt_95 rfl rfl r
theorem tX12_doIt_96 {a n j : Nat} {x : Int32} {f : Nat → Int32} (ha : At h a (.inl (0, n, .inl f))) (hx : x = nI j) (hj : j < n) (hn : n < 2147483648) (r : RQ G mX12_doIt d 97 [x0, x1, x2, x3, x4] (.int (f j) :: S) (h) P) : RQ G mX12_doIt d 96 [x0, x1, x2, x3, x4] (.int x :: .ref a :: S) h P := q_iald (M := mX12_doIt) (pc := 96) dX12_doIt_96 ha hx hj hn r
theorem tX12_doIt_97 {b d2 : Nat} {vs : List Value} {a0 : Int32} {a1 : Int32} {a2 : Int32} {Q : Int32 → AH → Prop} (hd : d2 + 1 ≤ d) (ha : At h b (.inr (10, vs))) (call : RQ G mX12_reckonAll d2 0 [some (.ref b), some (.int a0), some (.int a1), some (.int a2), none] [] h (Ri Q)) (k : ∀ x h1, Q x h1 → RQ G mX12_doIt d 100 [x0, x1, x2, x3, x4] (.int x :: S) h1 P) (hst : (S.map fun v => v.category).sum ≤ 8 := by exact Nat.le_of_ble_eq_true rfl)  : RQ G mX12_doIt d 97 [x0, x1, x2, x3, x4] (.int a2 :: .int a1 :: .int a0 :: .ref b :: S) h P := q_callV (M := mX12_doIt) (pc := 97) (M2 := mX12_reckonAll) (As := [.int a0, .int a1, .int a2]) (n := 3) dX12_doIt_97 rfl ⟨by decide, by decide, by decide, rfl⟩ rfl w1857 w1859 w96 w120 w1860 (show CL[10]? = some (RX12, TX12, 25) from rfl) hd (by decide) (Nat.le_of_ble_eq_true rfl) rfl ha hst call (callk_i k)
theorem tX12_doIt_100 {b d2 : Nat} {vs : List Value} {a0 : Int32} {a1 : Int32} {a2 : Int32} {a3 : Int32} {Q : Int32 → AH → Prop} (hd : d2 + 1 ≤ d) (ha : At h b (.inr (10, vs))) (call : RQ G mX12_pourIt d2 0 [some (.ref b), some (.int a0), some (.int a1), some (.int a2), some (.int a3), none] [] h (Ri Q)) (k : ∀ x h1, Q x h1 → RQ G mX12_doIt d 103 [x0, x1, x2, x3, x4] (.int x :: S) h1 P) (hst : (S.map fun v => v.category).sum ≤ 8 := by exact Nat.le_of_ble_eq_true rfl)  : RQ G mX12_doIt d 100 [x0, x1, x2, x3, x4] (.int a3 :: .int a2 :: .int a1 :: .int a0 :: .ref b :: S) h P := q_callV (M := mX12_doIt) (pc := 100) (M2 := mX12_pourIt) (As := [.int a0, .int a1, .int a2, .int a3]) (n := 4) dX12_doIt_100 rfl ⟨by decide, by decide, by decide, rfl⟩ rfl w1872 w1874 w98 w120 w1875 (show CL[10]? = some (RX12, TX12, 25) from rfl) hd (by decide) (Nat.le_of_ble_eq_true rfl) rfl ha hst call (callk_i k)
theorem tX12_doIt_103 {v : Value} (hv : ok1 (some v) = true := by rfl) (r : RQ G mX12_doIt d 104 [x0, x1, x2, x3, x4] (S) (h) P) : RQ G mX12_doIt d 103 [x0, x1, x2, x3, x4] (v :: S) h P := q_pop (M := mX12_doIt) (pc := 103) dX12_doIt_103 hv r
theorem tX12_doIt_104 (r : RQ G mX12_doIt d 171 [x0, x1, x2, x3, x4] S h P) : RQ G mX12_doIt d 104 [x0, x1, x2, x3, x4] (S) h P := q_goto (M := mX12_doIt) (pc := 104) dX12_doIt_104 (by decide) r
theorem tX12_doIt_107 {k : Nat} (r : RQ G mX12_doIt d 108 [some (.ref k), x1, x2, x3, x4] (.ref k :: S) (h) P) : RQ G mX12_doIt d 107 [some (.ref k), x1, x2, x3, x4] (S) h P := q_aload_n (M := mX12_doIt) (pc := 107) (r0 := some k) dX12_doIt_107 rfl rfl r
theorem tX12_doIt_108 {i : Nat} {vs : List Value} {v : Value} (ha : At h i (.inr (10, vs))) (hv : vs[20]? = some v) (r : RQ G mX12_doIt d 111 [x0, x1, x2, x3, x4] (v :: S) (h) P) : RQ G mX12_doIt d 108 [x0, x1, x2, x3, x4] (.ref i :: S) h P := q_get (M := mX12_doIt) (pc := 108) (kf := 20) dX12_doIt_108 (show CL[10]? = some (RX12, TX12, 25) from rfl) inA12 (by decide) rfl w1443 ha hv r
theorem tX12_doIt_111 (r : RQ G mX12_doIt d 113 [x0, x1, x2, x3, x4] (.int (nI 55) :: S) (h) P) : RQ G mX12_doIt d 111 [x0, x1, x2, x3, x4] (S) h P := q_bipush (M := mX12_doIt) (pc := 111) dX12_doIt_111 (by decide) r
theorem tX12_doIt_113 {v : Int32} (r : RQ G mX12_doIt d 114 [x0, some (.int v), x2, x3, x4] (.int v :: S) (h) P) : RQ G mX12_doIt d 113 [x0, some (.int v), x2, x3, x4] (S) h P := q_iload_n (M := mX12_doIt) (pc := 113) dX12_doIt_113 rfl rfl r
theorem tX12_doIt_114 {x y : Int32} (r : RQ G mX12_doIt d 115 [x0, x1, x2, x3, x4] (.int (x + y) :: S) (h) P) : RQ G mX12_doIt d 114 [x0, x1, x2, x3, x4] (.int y :: .int x :: S) h P := q_iadd (M := mX12_doIt) (pc := 114) dX12_doIt_114 r
theorem tX12_doIt_115 {v : Int32} (r : RQ G mX12_doIt d 117 [x0, x1, x2, x3, some (.int v)] (.int v :: S) (h) P) : RQ G mX12_doIt d 115 [x0, x1, x2, x3, some (.int v)] (S) h P := q_iload (M := mX12_doIt) (pc := 115) dX12_doIt_115 rfl r
theorem tX12_doIt_117 {a n j : Nat} {x : Int32} {v : Int32} {f : Nat → Int32} (ha : At h a (.inl (0, n, .inl f))) (hx : x = nI j) (hj : j < n) (hn : n < 2147483648) (r : RQ G mX12_doIt d 118 [x0, x1, x2, x3, x4] (S) (hset h a (.inl (0, n, .inl (upd f j v)))) P) : RQ G mX12_doIt d 117 [x0, x1, x2, x3, x4] (.int v :: .int x :: .ref a :: S) h P := q_iast (M := mX12_doIt) (pc := 117) dX12_doIt_117 ha hx hj hn r
theorem tX12_doIt_118 (r : RQ G mX12_doIt d 171 [x0, x1, x2, x3, x4] S h P) : RQ G mX12_doIt d 118 [x0, x1, x2, x3, x4] (S) h P := q_goto (M := mX12_doIt) (pc := 118) dX12_doIt_118 (by decide) r
theorem tX12_doIt_121 {k : Nat} (r : RQ G mX12_doIt d 122 [some (.ref k), x1, x2, x3, x4] (.ref k :: S) (h) P) : RQ G mX12_doIt d 121 [some (.ref k), x1, x2, x3, x4] (S) h P := q_aload_n (M := mX12_doIt) (pc := 121) (r0 := some k) dX12_doIt_121 rfl rfl r
theorem tX12_doIt_122 {k : Nat} (r : RQ G mX12_doIt d 123 [some (.ref k), x1, x2, x3, x4] (.ref k :: S) (h) P) : RQ G mX12_doIt d 122 [some (.ref k), x1, x2, x3, x4] (S) h P := q_aload_n (M := mX12_doIt) (pc := 122) (r0 := some k) dX12_doIt_122 rfl rfl r
theorem tX12_doIt_123 {i : Nat} {vs : List Value} {v : Value} (ha : At h i (.inr (10, vs))) (hv : vs[20]? = some v) (r : RQ G mX12_doIt d 126 [x0, x1, x2, x3, x4] (v :: S) (h) P) : RQ G mX12_doIt d 123 [x0, x1, x2, x3, x4] (.ref i :: S) h P := q_get (M := mX12_doIt) (pc := 123) (kf := 20) dX12_doIt_123 (show CL[10]? = some (RX12, TX12, 25) from rfl) inA12 (by decide) rfl w1443 ha hv r
theorem tX12_doIt_126 (r : RQ G mX12_doIt d 128 [x0, x1, x2, x3, x4] (.int (nI 55) :: S) (h) P) : RQ G mX12_doIt d 126 [x0, x1, x2, x3, x4] (S) h P := q_bipush (M := mX12_doIt) (pc := 126) dX12_doIt_126 (by decide) r
theorem tX12_doIt_128 {v : Int32} (r : RQ G mX12_doIt d 129 [x0, some (.int v), x2, x3, x4] (.int v :: S) (h) P) : RQ G mX12_doIt d 128 [x0, some (.int v), x2, x3, x4] (S) h P := q_iload_n (M := mX12_doIt) (pc := 128) dX12_doIt_128 rfl rfl r
theorem tX12_doIt_129 {x y : Int32} (r : RQ G mX12_doIt d 130 [x0, x1, x2, x3, x4] (.int (x + y) :: S) (h) P) : RQ G mX12_doIt d 129 [x0, x1, x2, x3, x4] (.int y :: .int x :: S) h P := q_iadd (M := mX12_doIt) (pc := 129) dX12_doIt_129 r
theorem tX12_doIt_130 {a n j : Nat} {x : Int32} {f : Nat → Int32} (ha : At h a (.inl (0, n, .inl f))) (hx : x = nI j) (hj : j < n) (hn : n < 2147483648) (r : RQ G mX12_doIt d 131 [x0, x1, x2, x3, x4] (.int (f j) :: S) (h) P) : RQ G mX12_doIt d 130 [x0, x1, x2, x3, x4] (.int x :: .ref a :: S) h P := q_iald (M := mX12_doIt) (pc := 130) dX12_doIt_130 ha hx hj hn r
theorem tX12_doIt_131 {b d2 : Nat} {vs : List Value} {a0 : Int32} {Q : AH → Prop} (hd : d2 + 1 ≤ d) (ha : At h b (.inr (10, vs))) (call : RQ G mX12_shakeIt d2 0 [some (.ref b), some (.int a0), none, none] [] h (Rv Q)) (k : ∀ h1, Q h1 → RQ G mX12_doIt d 134 [x0, x1, x2, x3, x4] S h1 P) (hst : (S.map fun v => v.category).sum ≤ 8 := by exact Nat.le_of_ble_eq_true rfl)  : RQ G mX12_doIt d 131 [x0, x1, x2, x3, x4] (.int a0 :: .ref b :: S) h P := q_callV (M := mX12_doIt) (pc := 131) (M2 := mX12_shakeIt) (As := [.int a0]) (n := 1) dX12_doIt_131 rfl ⟨by decide, by decide, by decide, rfl⟩ rfl w1880 w1882 w99 w120 w1883 (show CL[10]? = some (RX12, TX12, 25) from rfl) hd (by decide) (Nat.le_of_ble_eq_true rfl) rfl ha hst call (callk_v k)
theorem tX12_doIt_134 (r : RQ G mX12_doIt d 171 [x0, x1, x2, x3, x4] S h P) : RQ G mX12_doIt d 134 [x0, x1, x2, x3, x4] (S) h P := q_goto (M := mX12_doIt) (pc := 134) dX12_doIt_134 (by decide) r
theorem tX12_doIt_137 {k : Nat} (r : RQ G mX12_doIt d 138 [some (.ref k), x1, x2, x3, x4] (.ref k :: S) (h) P) : RQ G mX12_doIt d 137 [some (.ref k), x1, x2, x3, x4] (S) h P := q_aload_n (M := mX12_doIt) (pc := 137) (r0 := some k) dX12_doIt_137 rfl rfl r
theorem tX12_doIt_138 {v : Int32} (r : RQ G mX12_doIt d 139 [x0, x1, x2, some (.int v), x4] (.int v :: S) (h) P) : RQ G mX12_doIt d 138 [x0, x1, x2, some (.int v), x4] (S) h P := q_iload_n (M := mX12_doIt) (pc := 138) dX12_doIt_138 rfl rfl r
theorem tX12_doIt_139 {v : Int32} (r : RQ G mX12_doIt d 141 [x0, x1, x2, x3, some (.int v)] (.int v :: S) (h) P) : RQ G mX12_doIt d 139 [x0, x1, x2, x3, some (.int v)] (S) h P := q_iload (M := mX12_doIt) (pc := 139) dX12_doIt_139 rfl r
theorem tX12_doIt_141 {b d2 : Nat} {vs : List Value} {a0 : Int32} {a1 : Int32} {Q : Int32 → AH → Prop} (hd : d2 + 1 ≤ d) (ha : At h b (.inr (10, vs))) (call : RQ G mX12_canJoin d2 0 [some (.ref b), some (.int a0), some (.int a1), none] [] h (Ri Q)) (k : ∀ x h1, Q x h1 → RQ G mX12_doIt d 144 [x0, x1, x2, x3, x4] (.int x :: S) h1 P) (hst : (S.map fun v => v.category).sum ≤ 8 := by exact Nat.le_of_ble_eq_true rfl)  : RQ G mX12_doIt d 141 [x0, x1, x2, x3, x4] (.int a1 :: .int a0 :: .ref b :: S) h P := q_callV (M := mX12_doIt) (pc := 141) (M2 := mX12_canJoin) (As := [.int a0, .int a1]) (n := 2) dX12_doIt_141 rfl ⟨by decide, by decide, by decide, rfl⟩ rfl w1892 w1894 w100 w120 w1895 (show CL[10]? = some (RX12, TX12, 25) from rfl) hd (by decide) (Nat.le_of_ble_eq_true rfl) rfl ha hst call (callk_i k)
theorem tX12_doIt_144 {x : Int32} (kt : x = 0 → RQ G mX12_doIt d 171 [x0, x1, x2, x3, x4] S h P) (kf : ¬ x = 0 → RQ G mX12_doIt d 147 [x0, x1, x2, x3, x4] S h P) : RQ G mX12_doIt d 144 [x0, x1, x2, x3, x4] (.int x :: S) h P := q_if_eq (M := mX12_doIt) (pc := 144) dX12_doIt_144 (by decide) kt kf
theorem tX12_doIt_147 {k : Nat} (r : RQ G mX12_doIt d 148 [some (.ref k), x1, x2, x3, x4] (.ref k :: S) (h) P) : RQ G mX12_doIt d 147 [some (.ref k), x1, x2, x3, x4] (S) h P := q_aload_n (M := mX12_doIt) (pc := 147) (r0 := some k) dX12_doIt_147 rfl rfl r
theorem tX12_doIt_148 {i : Nat} {vs : List Value} {v : Value} (ha : At h i (.inr (10, vs))) (hv : vs[20]? = some v) (r : RQ G mX12_doIt d 151 [x0, x1, x2, x3, x4] (v :: S) (h) P) : RQ G mX12_doIt d 148 [x0, x1, x2, x3, x4] (.ref i :: S) h P := q_get (M := mX12_doIt) (pc := 148) (kf := 20) dX12_doIt_148 (show CL[10]? = some (RX12, TX12, 25) from rfl) inA12 (by decide) rfl w1443 ha hv r
theorem tX12_doIt_151 (r : RQ G mX12_doIt d 153 [x0, x1, x2, x3, x4] (.int (nI 49) :: S) (h) P) : RQ G mX12_doIt d 151 [x0, x1, x2, x3, x4] (S) h P := q_bipush (M := mX12_doIt) (pc := 151) dX12_doIt_151 (by decide) r
theorem tX12_doIt_153 {v : Int32} (r : RQ G mX12_doIt d 154 [x0, x1, x2, some (.int v), x4] (.int v :: S) (h) P) : RQ G mX12_doIt d 153 [x0, x1, x2, some (.int v), x4] (S) h P := q_iload_n (M := mX12_doIt) (pc := 153) dX12_doIt_153 rfl rfl r
theorem tX12_doIt_154 {x y : Int32} (r : RQ G mX12_doIt d 155 [x0, x1, x2, x3, x4] (.int (x + y) :: S) (h) P) : RQ G mX12_doIt d 154 [x0, x1, x2, x3, x4] (.int y :: .int x :: S) h P := q_iadd (M := mX12_doIt) (pc := 154) dX12_doIt_154 r
theorem tX12_doIt_155 {v : Int32} (r : RQ G mX12_doIt d 157 [x0, x1, x2, x3, some (.int v)] (.int v :: S) (h) P) : RQ G mX12_doIt d 155 [x0, x1, x2, x3, some (.int v)] (S) h P := q_iload (M := mX12_doIt) (pc := 155) dX12_doIt_155 rfl r
theorem tX12_doIt_157 {a n j : Nat} {x : Int32} {v : Int32} {f : Nat → Int32} (ha : At h a (.inl (0, n, .inl f))) (hx : x = nI j) (hj : j < n) (hn : n < 2147483648) (r : RQ G mX12_doIt d 158 [x0, x1, x2, x3, x4] (S) (hset h a (.inl (0, n, .inl (upd f j v)))) P) : RQ G mX12_doIt d 157 [x0, x1, x2, x3, x4] (.int v :: .int x :: .ref a :: S) h P := q_iast (M := mX12_doIt) (pc := 157) dX12_doIt_157 ha hx hj hn r
theorem tX12_doIt_158 (r : RQ G mX12_doIt d 171 [x0, x1, x2, x3, x4] S h P) : RQ G mX12_doIt d 158 [x0, x1, x2, x3, x4] (S) h P := q_goto (M := mX12_doIt) (pc := 158) dX12_doIt_158 (by decide) r
theorem tX12_doIt_161 {k : Nat} (r : RQ G mX12_doIt d 162 [some (.ref k), x1, x2, x3, x4] (.ref k :: S) (h) P) : RQ G mX12_doIt d 161 [some (.ref k), x1, x2, x3, x4] (S) h P := q_aload_n (M := mX12_doIt) (pc := 161) (r0 := some k) dX12_doIt_161 rfl rfl r
theorem tX12_doIt_162 {i : Nat} {vs : List Value} {v : Value} (ha : At h i (.inr (10, vs))) (hv : vs[20]? = some v) (r : RQ G mX12_doIt d 165 [x0, x1, x2, x3, x4] (v :: S) (h) P) : RQ G mX12_doIt d 162 [x0, x1, x2, x3, x4] (.ref i :: S) h P := q_get (M := mX12_doIt) (pc := 162) (kf := 20) dX12_doIt_162 (show CL[10]? = some (RX12, TX12, 25) from rfl) inA12 (by decide) rfl w1443 ha hv r
theorem tX12_doIt_165 (r : RQ G mX12_doIt d 167 [x0, x1, x2, x3, x4] (.int (nI 49) :: S) (h) P) : RQ G mX12_doIt d 165 [x0, x1, x2, x3, x4] (S) h P := q_bipush (M := mX12_doIt) (pc := 165) dX12_doIt_165 (by decide) r
theorem tX12_doIt_167 {v : Int32} (r : RQ G mX12_doIt d 168 [x0, x1, x2, some (.int v), x4] (.int v :: S) (h) P) : RQ G mX12_doIt d 167 [x0, x1, x2, some (.int v), x4] (S) h P := q_iload_n (M := mX12_doIt) (pc := 167) dX12_doIt_167 rfl rfl r
theorem tX12_doIt_168 {x y : Int32} (r : RQ G mX12_doIt d 169 [x0, x1, x2, x3, x4] (.int (x + y) :: S) (h) P) : RQ G mX12_doIt d 168 [x0, x1, x2, x3, x4] (.int y :: .int x :: S) h P := q_iadd (M := mX12_doIt) (pc := 168) dX12_doIt_168 r
theorem tX12_doIt_169 (r : RQ G mX12_doIt d 170 [x0, x1, x2, x3, x4] (.int (-1) :: S) (h) P) : RQ G mX12_doIt d 169 [x0, x1, x2, x3, x4] (S) h P := q_iconst (M := mX12_doIt) (pc := 169) dX12_doIt_169 (by decide) r
theorem tX12_doIt_170 {a n j : Nat} {x : Int32} {v : Int32} {f : Nat → Int32} (ha : At h a (.inl (0, n, .inl f))) (hx : x = nI j) (hj : j < n) (hn : n < 2147483648) (r : RQ G mX12_doIt d 171 [x0, x1, x2, x3, x4] (S) (hset h a (.inl (0, n, .inl (upd f j v)))) P) : RQ G mX12_doIt d 170 [x0, x1, x2, x3, x4] (.int v :: .int x :: .ref a :: S) h P := q_iast (M := mX12_doIt) (pc := 170) dX12_doIt_170 ha hx hj hn r
theorem tX12_doIt_171 (hP : P (.inl none) h) : RQ G mX12_doIt d 171 [x0, x1, x2, x3, x4] ([]) h P := q_return (M := mX12_doIt) (pc := 171) dX12_doIt_171 rfl hP
end T
theorem dX12_dayOn_0 : decode cX12_dayOn 0 = .ok (.iconst 0, 1) := by decide +kernel
theorem dX12_dayOn_1 : decode cX12_dayOn 1 = .ok (.istore_n 1, 1) := by decide +kernel
theorem dX12_dayOn_2 : decode cX12_dayOn 2 = .ok (.iconst 0, 1) := by decide +kernel
theorem dX12_dayOn_3 : decode cX12_dayOn 3 = .ok (.istore_n 2, 1) := by decide +kernel
theorem dX12_dayOn_4 : decode cX12_dayOn 4 = .ok (.iload_n 2, 1) := by decide +kernel
theorem dX12_dayOn_5 : decode cX12_dayOn 5 = .ok (.aload_n 0, 1) := by decide +kernel
theorem dX12_dayOn_6 : decode cX12_dayOn 6 = .ok (.getfield 41, 3) := by decide +kernel
theorem dX12_dayOn_9 : decode cX12_dayOn 9 = .ok (.getfield 275, 3) := by decide +kernel
theorem dX12_dayOn_12 : decode cX12_dayOn 12 = .ok (.if_icmp .ge 83, 3) := by decide +kernel
theorem dX12_dayOn_15 : decode cX12_dayOn 15 = .ok (.aload_n 0, 1) := by decide +kernel
theorem dX12_dayOn_16 : decode cX12_dayOn 16 = .ok (.iload_n 2, 1) := by decide +kernel
theorem dX12_dayOn_17 : decode cX12_dayOn 17 = .ok (.invokevirtual 373, 3) := by decide +kernel
theorem dX12_dayOn_20 : decode cX12_dayOn 20 = .ok (.istore_n 3, 1) := by decide +kernel
theorem dX12_dayOn_21 : decode cX12_dayOn 21 = .ok (.iload_n 3, 1) := by decide +kernel
theorem dX12_dayOn_22 : decode cX12_dayOn 22 = .ok (.iconst (-1), 1) := by decide +kernel
theorem dX12_dayOn_23 : decode cX12_dayOn 23 = .ok (.if_icmp .ne 6, 3) := by decide +kernel
theorem dX12_dayOn_26 : decode cX12_dayOn 26 = .ok (.goto 63, 3) := by decide +kernel
theorem dX12_dayOn_29 : decode cX12_dayOn 29 = .ok (.aload_n 0, 1) := by decide +kernel
theorem dX12_dayOn_30 : decode cX12_dayOn 30 = .ok (.getfield 41, 3) := by decide +kernel
theorem dX12_dayOn_33 : decode cX12_dayOn 33 = .ok (.getfield 244, 3) := by decide +kernel
theorem dX12_dayOn_36 : decode cX12_dayOn 36 = .ok (.iload_n 3, 1) := by decide +kernel
theorem dX12_dayOn_37 : decode cX12_dayOn 37 = .ok (.iaload, 1) := by decide +kernel
theorem dX12_dayOn_38 : decode cX12_dayOn 38 = .ok (.istore 4, 2) := by decide +kernel
theorem dX12_dayOn_40 : decode cX12_dayOn 40 = .ok (.iload 4, 2) := by decide +kernel
theorem dX12_dayOn_42 : decode cX12_dayOn 42 = .ok (.aload_n 0, 1) := by decide +kernel
theorem dX12_dayOn_43 : decode cX12_dayOn 43 = .ok (.getfield 41, 3) := by decide +kernel
theorem dX12_dayOn_46 : decode cX12_dayOn 46 = .ok (.getfield 250, 3) := by decide +kernel
theorem dX12_dayOn_49 : decode cX12_dayOn 49 = .ok (.iload_n 3, 1) := by decide +kernel
theorem dX12_dayOn_50 : decode cX12_dayOn 50 = .ok (.iaload, 1) := by decide +kernel
theorem dX12_dayOn_51 : decode cX12_dayOn 51 = .ok (.if_icmp .ge 16, 3) := by decide +kernel
theorem dX12_dayOn_54 : decode cX12_dayOn 54 = .ok (.aload_n 0, 1) := by decide +kernel
theorem dX12_dayOn_55 : decode cX12_dayOn 55 = .ok (.iload_n 2, 1) := by decide +kernel
theorem dX12_dayOn_56 : decode cX12_dayOn 56 = .ok (.iload 4, 2) := by decide +kernel
theorem dX12_dayOn_58 : decode cX12_dayOn 58 = .ok (.invokevirtual 376, 3) := by decide +kernel
theorem dX12_dayOn_61 : decode cX12_dayOn 61 = .ok (.iinc 4 1, 3) := by decide +kernel
theorem dX12_dayOn_64 : decode cX12_dayOn 64 = .ok (.goto (-24), 3) := by decide +kernel
theorem dX12_dayOn_67 : decode cX12_dayOn 67 = .ok (.iload_n 1, 1) := by decide +kernel
theorem dX12_dayOn_68 : decode cX12_dayOn 68 = .ok (.aload_n 0, 1) := by decide +kernel
theorem dX12_dayOn_69 : decode cX12_dayOn 69 = .ok (.getfield 41, 3) := by decide +kernel
theorem dX12_dayOn_72 : decode cX12_dayOn 72 = .ok (.getfield 250, 3) := by decide +kernel
theorem dX12_dayOn_75 : decode cX12_dayOn 75 = .ok (.iload_n 3, 1) := by decide +kernel
theorem dX12_dayOn_76 : decode cX12_dayOn 76 = .ok (.iaload, 1) := by decide +kernel
theorem dX12_dayOn_77 : decode cX12_dayOn 77 = .ok (.aload_n 0, 1) := by decide +kernel
theorem dX12_dayOn_78 : decode cX12_dayOn 78 = .ok (.getfield 41, 3) := by decide +kernel
theorem dX12_dayOn_81 : decode cX12_dayOn 81 = .ok (.getfield 244, 3) := by decide +kernel
theorem dX12_dayOn_84 : decode cX12_dayOn 84 = .ok (.iload_n 3, 1) := by decide +kernel
theorem dX12_dayOn_85 : decode cX12_dayOn 85 = .ok (.iaload, 1) := by decide +kernel
theorem dX12_dayOn_86 : decode cX12_dayOn 86 = .ok (.isub, 1) := by decide +kernel
theorem dX12_dayOn_87 : decode cX12_dayOn 87 = .ok (.iadd, 1) := by decide +kernel
theorem dX12_dayOn_88 : decode cX12_dayOn 88 = .ok (.istore_n 1, 1) := by decide +kernel
theorem dX12_dayOn_89 : decode cX12_dayOn 89 = .ok (.iinc 2 1, 3) := by decide +kernel
theorem dX12_dayOn_92 : decode cX12_dayOn 92 = .ok (.goto (-88), 3) := by decide +kernel
theorem dX12_dayOn_95 : decode cX12_dayOn 95 = .ok (.aload_n 0, 1) := by decide +kernel
theorem dX12_dayOn_96 : decode cX12_dayOn 96 = .ok (.getfield 51, 3) := by decide +kernel
theorem dX12_dayOn_99 : decode cX12_dayOn 99 = .ok (.iconst 0, 1) := by decide +kernel
theorem dX12_dayOn_100 : decode cX12_dayOn 100 = .ok (.dup2, 1) := by decide +kernel
theorem dX12_dayOn_101 : decode cX12_dayOn 101 = .ok (.iaload, 1) := by decide +kernel
theorem dX12_dayOn_102 : decode cX12_dayOn 102 = .ok (.iconst 1, 1) := by decide +kernel
theorem dX12_dayOn_103 : decode cX12_dayOn 103 = .ok (.iadd, 1) := by decide +kernel
theorem dX12_dayOn_104 : decode cX12_dayOn 104 = .ok (.iastore, 1) := by decide +kernel
theorem dX12_dayOn_105 : decode cX12_dayOn 105 = .ok (.iload_n 1, 1) := by decide +kernel
theorem dX12_dayOn_106 : decode cX12_dayOn 106 = .ok (.ireturn, 1) := by decide +kernel
section T
variable {G : GT} {d : Nat} {S : List Value} {h : AH} {P : OC → AH → Prop} {x0 x1 x2 x3 x4 x5 x6 x7 x8 x9 x10 x11 x12 x13 x14 x15 : Option Value}
theorem tX12_dayOn_0 (r : RQ G mX12_dayOn d 1 [x0, x1, x2, x3, x4] (.int (nI 0) :: S) (h) P) : RQ G mX12_dayOn d 0 [x0, x1, x2, x3, x4] (S) h P := q_iconst (M := mX12_dayOn) (pc := 0) dX12_dayOn_0 (by decide) r
theorem tX12_dayOn_1 {v : Int32} (ho : ok1 x0 = true := by rfl) (r : RQ G mX12_dayOn d 2 [x0, some (.int v), x2, x3, x4] (S) (h) P) : RQ G mX12_dayOn d 1 [x0, x1, x2, x3, x4] (.int v :: S) h P := q_istore_n (M := mX12_dayOn) (pc := 1) dX12_dayOn_1 rfl (Nat.le_of_ble_eq_true rfl) ho r
theorem tX12_dayOn_2 (r : RQ G mX12_dayOn d 3 [x0, x1, x2, x3, x4] (.int (nI 0) :: S) (h) P) : RQ G mX12_dayOn d 2 [x0, x1, x2, x3, x4] (S) h P := q_iconst (M := mX12_dayOn) (pc := 2) dX12_dayOn_2 (by decide) r
theorem tX12_dayOn_3 {v : Int32} (ho : ok1 x1 = true := by rfl) (r : RQ G mX12_dayOn d 4 [x0, x1, some (.int v), x3, x4] (S) (h) P) : RQ G mX12_dayOn d 3 [x0, x1, x2, x3, x4] (.int v :: S) h P := q_istore_n (M := mX12_dayOn) (pc := 3) dX12_dayOn_3 rfl (Nat.le_of_ble_eq_true rfl) ho r
theorem tX12_dayOn_4 {v : Int32} (r : RQ G mX12_dayOn d 5 [x0, x1, some (.int v), x3, x4] (.int v :: S) (h) P) : RQ G mX12_dayOn d 4 [x0, x1, some (.int v), x3, x4] (S) h P := q_iload_n (M := mX12_dayOn) (pc := 4) dX12_dayOn_4 rfl rfl r
theorem tX12_dayOn_5 {k : Nat} (r : RQ G mX12_dayOn d 6 [some (.ref k), x1, x2, x3, x4] (.ref k :: S) (h) P) : RQ G mX12_dayOn d 5 [some (.ref k), x1, x2, x3, x4] (S) h P := q_aload_n (M := mX12_dayOn) (pc := 5) (r0 := some k) dX12_dayOn_5 rfl rfl r
theorem tX12_dayOn_6 {i : Nat} {vs : List Value} {v : Value} (ha : At h i (.inr (10, vs))) (hv : vs[17]? = some v) (r : RQ G mX12_dayOn d 9 [x0, x1, x2, x3, x4] (v :: S) (h) P) : RQ G mX12_dayOn d 6 [x0, x1, x2, x3, x4] (.ref i :: S) h P := q_get (M := mX12_dayOn) (pc := 6) (kf := 17) dX12_dayOn_6 (show CL[10]? = some (RX12, TX12, 25) from rfl) inA12 (by decide) rfl w1440 ha hv r
theorem tX12_dayOn_9 {i : Nat} {vs : List Value} {v : Value} (ha : At h i (.inr (9, vs))) (hv : vs[5]? = some v) (r : RQ G mX12_dayOn d 12 [x0, x1, x2, x3, x4] (v :: S) (h) P) : RQ G mX12_dayOn d 9 [x0, x1, x2, x3, x4] (.ref i :: S) h P := q_getN (M := mX12_dayOn) (pc := 9) (kf := 5) dX12_dayOn_9 (show CL[9]? = some (RX11, TX11, 24) from rfl) inA11 (by decide) rfl v1330 ha hv r
theorem tX12_dayOn_12 {x y : Int32} (kt : y ≤ x → RQ G mX12_dayOn d 95 [x0, x1, x2, x3, x4] S h P) (kf : ¬ y ≤ x → RQ G mX12_dayOn d 15 [x0, x1, x2, x3, x4] S h P) : RQ G mX12_dayOn d 12 [x0, x1, x2, x3, x4] (.int y :: .int x :: S) h P := q_icmp_ge (M := mX12_dayOn) (pc := 12) dX12_dayOn_12 (by decide) kt kf
theorem tX12_dayOn_15 {k : Nat} (r : RQ G mX12_dayOn d 16 [some (.ref k), x1, x2, x3, x4] (.ref k :: S) (h) P) : RQ G mX12_dayOn d 15 [some (.ref k), x1, x2, x3, x4] (S) h P := q_aload_n (M := mX12_dayOn) (pc := 15) (r0 := some k) dX12_dayOn_15 rfl rfl r
theorem tX12_dayOn_16 {v : Int32} (r : RQ G mX12_dayOn d 17 [x0, x1, some (.int v), x3, x4] (.int v :: S) (h) P) : RQ G mX12_dayOn d 16 [x0, x1, some (.int v), x3, x4] (S) h P := q_iload_n (M := mX12_dayOn) (pc := 16) dX12_dayOn_16 rfl rfl r
theorem tX12_dayOn_17 {b d2 : Nat} {vs : List Value} {a0 : Int32} {Q : Int32 → AH → Prop} (hd : d2 + 1 ≤ d) (ha : At h b (.inr (10, vs))) (call : RQ G mX12_ruleOf d2 0 [some (.ref b), some (.int a0), none] [] h (Ri Q)) (k : ∀ x h1, Q x h1 → RQ G mX12_dayOn d 20 [x0, x1, x2, x3, x4] (.int x :: S) h1 P) (hst : (S.map fun v => v.category).sum ≤ 8 := by exact Nat.le_of_ble_eq_true rfl)  : RQ G mX12_dayOn d 17 [x0, x1, x2, x3, x4] (.int a0 :: .ref b :: S) h P := q_callV (M := mX12_dayOn) (pc := 17) (M2 := mX12_ruleOf) (As := [.int a0]) (n := 1) dX12_dayOn_17 rfl ⟨by decide, by decide, by decide, rfl⟩ rfl w1853 w1855 w95 w120 w1856 (show CL[10]? = some (RX12, TX12, 25) from rfl) hd (by decide) (Nat.le_of_ble_eq_true rfl) rfl ha hst call (callk_i k)
theorem tX12_dayOn_20 {v : Int32} (ho : ok1 x2 = true := by rfl) (r : RQ G mX12_dayOn d 21 [x0, x1, x2, some (.int v), x4] (S) (h) P) : RQ G mX12_dayOn d 20 [x0, x1, x2, x3, x4] (.int v :: S) h P := q_istore_n (M := mX12_dayOn) (pc := 20) dX12_dayOn_20 rfl (Nat.le_of_ble_eq_true rfl) ho r
theorem tX12_dayOn_21 {v : Int32} (r : RQ G mX12_dayOn d 22 [x0, x1, x2, some (.int v), x4] (.int v :: S) (h) P) : RQ G mX12_dayOn d 21 [x0, x1, x2, some (.int v), x4] (S) h P := q_iload_n (M := mX12_dayOn) (pc := 21) dX12_dayOn_21 rfl rfl r
theorem tX12_dayOn_22 (r : RQ G mX12_dayOn d 23 [x0, x1, x2, x3, x4] (.int (-1) :: S) (h) P) : RQ G mX12_dayOn d 22 [x0, x1, x2, x3, x4] (S) h P := q_iconst (M := mX12_dayOn) (pc := 22) dX12_dayOn_22 (by decide) r
theorem tX12_dayOn_23 {x y : Int32} (kt : ¬ x = y → RQ G mX12_dayOn d 29 [x0, x1, x2, x3, x4] S h P) (kf : x = y → RQ G mX12_dayOn d 26 [x0, x1, x2, x3, x4] S h P) : RQ G mX12_dayOn d 23 [x0, x1, x2, x3, x4] (.int y :: .int x :: S) h P := q_icmp_ne (M := mX12_dayOn) (pc := 23) dX12_dayOn_23 (by decide) kt kf
theorem tX12_dayOn_26 (r : RQ G mX12_dayOn d 89 [x0, x1, x2, x3, x4] S h P) : RQ G mX12_dayOn d 26 [x0, x1, x2, x3, x4] (S) h P := q_goto (M := mX12_dayOn) (pc := 26) dX12_dayOn_26 (by decide) r
theorem tX12_dayOn_29 {k : Nat} (r : RQ G mX12_dayOn d 30 [some (.ref k), x1, x2, x3, x4] (.ref k :: S) (h) P) : RQ G mX12_dayOn d 29 [some (.ref k), x1, x2, x3, x4] (S) h P := q_aload_n (M := mX12_dayOn) (pc := 29) (r0 := some k) dX12_dayOn_29 rfl rfl r
theorem tX12_dayOn_30 {i : Nat} {vs : List Value} {v : Value} (ha : At h i (.inr (10, vs))) (hv : vs[17]? = some v) (r : RQ G mX12_dayOn d 33 [x0, x1, x2, x3, x4] (v :: S) (h) P) : RQ G mX12_dayOn d 30 [x0, x1, x2, x3, x4] (.ref i :: S) h P := q_get (M := mX12_dayOn) (pc := 30) (kf := 17) dX12_dayOn_30 (show CL[10]? = some (RX12, TX12, 25) from rfl) inA12 (by decide) rfl w1440 ha hv r
theorem tX12_dayOn_33 {i : Nat} {vs : List Value} {v : Value} (ha : At h i (.inr (9, vs))) (hv : vs[13]? = some v) (r : RQ G mX12_dayOn d 36 [x0, x1, x2, x3, x4] (v :: S) (h) P) : RQ G mX12_dayOn d 33 [x0, x1, x2, x3, x4] (.ref i :: S) h P := q_getN (M := mX12_dayOn) (pc := 33) (kf := 13) dX12_dayOn_33 (show CL[9]? = some (RX11, TX11, 24) from rfl) inA11 (by decide) rfl v1346 ha hv r
theorem tX12_dayOn_36 {v : Int32} (r : RQ G mX12_dayOn d 37 [x0, x1, x2, some (.int v), x4] (.int v :: S) (h) P) : RQ G mX12_dayOn d 36 [x0, x1, x2, some (.int v), x4] (S) h P := q_iload_n (M := mX12_dayOn) (pc := 36) dX12_dayOn_36 rfl rfl r
theorem tX12_dayOn_37 {a n j : Nat} {x : Int32} {f : Nat → Int32} (ha : At h a (.inl (0, n, .inl f))) (hx : x = nI j) (hj : j < n) (hn : n < 2147483648) (r : RQ G mX12_dayOn d 38 [x0, x1, x2, x3, x4] (.int (f j) :: S) (h) P) : RQ G mX12_dayOn d 37 [x0, x1, x2, x3, x4] (.int x :: .ref a :: S) h P := q_iald (M := mX12_dayOn) (pc := 37) dX12_dayOn_37 ha hx hj hn r
theorem tX12_dayOn_38 {v : Int32} (ho : ok1 x3 = true := by rfl) (r : RQ G mX12_dayOn d 40 [x0, x1, x2, x3, some (.int v)] (S) (h) P) : RQ G mX12_dayOn d 38 [x0, x1, x2, x3, x4] (.int v :: S) h P := q_istore (M := mX12_dayOn) (pc := 38) dX12_dayOn_38 (Nat.le_of_ble_eq_true rfl) ho r
theorem tX12_dayOn_40 {v : Int32} (r : RQ G mX12_dayOn d 42 [x0, x1, x2, x3, some (.int v)] (.int v :: S) (h) P) : RQ G mX12_dayOn d 40 [x0, x1, x2, x3, some (.int v)] (S) h P := q_iload (M := mX12_dayOn) (pc := 40) dX12_dayOn_40 rfl r
theorem tX12_dayOn_42 {k : Nat} (r : RQ G mX12_dayOn d 43 [some (.ref k), x1, x2, x3, x4] (.ref k :: S) (h) P) : RQ G mX12_dayOn d 42 [some (.ref k), x1, x2, x3, x4] (S) h P := q_aload_n (M := mX12_dayOn) (pc := 42) (r0 := some k) dX12_dayOn_42 rfl rfl r
theorem tX12_dayOn_43 {i : Nat} {vs : List Value} {v : Value} (ha : At h i (.inr (10, vs))) (hv : vs[17]? = some v) (r : RQ G mX12_dayOn d 46 [x0, x1, x2, x3, x4] (v :: S) (h) P) : RQ G mX12_dayOn d 43 [x0, x1, x2, x3, x4] (.ref i :: S) h P := q_get (M := mX12_dayOn) (pc := 43) (kf := 17) dX12_dayOn_43 (show CL[10]? = some (RX12, TX12, 25) from rfl) inA12 (by decide) rfl w1440 ha hv r
theorem tX12_dayOn_46 {i : Nat} {vs : List Value} {v : Value} (ha : At h i (.inr (9, vs))) (hv : vs[14]? = some v) (r : RQ G mX12_dayOn d 49 [x0, x1, x2, x3, x4] (v :: S) (h) P) : RQ G mX12_dayOn d 46 [x0, x1, x2, x3, x4] (.ref i :: S) h P := q_getN (M := mX12_dayOn) (pc := 46) (kf := 14) dX12_dayOn_46 (show CL[9]? = some (RX11, TX11, 24) from rfl) inA11 (by decide) rfl v1348 ha hv r
theorem tX12_dayOn_49 {v : Int32} (r : RQ G mX12_dayOn d 50 [x0, x1, x2, some (.int v), x4] (.int v :: S) (h) P) : RQ G mX12_dayOn d 49 [x0, x1, x2, some (.int v), x4] (S) h P := q_iload_n (M := mX12_dayOn) (pc := 49) dX12_dayOn_49 rfl rfl r
theorem tX12_dayOn_50 {a n j : Nat} {x : Int32} {f : Nat → Int32} (ha : At h a (.inl (0, n, .inl f))) (hx : x = nI j) (hj : j < n) (hn : n < 2147483648) (r : RQ G mX12_dayOn d 51 [x0, x1, x2, x3, x4] (.int (f j) :: S) (h) P) : RQ G mX12_dayOn d 50 [x0, x1, x2, x3, x4] (.int x :: .ref a :: S) h P := q_iald (M := mX12_dayOn) (pc := 50) dX12_dayOn_50 ha hx hj hn r
theorem tX12_dayOn_51 {x y : Int32} (kt : y ≤ x → RQ G mX12_dayOn d 67 [x0, x1, x2, x3, x4] S h P) (kf : ¬ y ≤ x → RQ G mX12_dayOn d 54 [x0, x1, x2, x3, x4] S h P) : RQ G mX12_dayOn d 51 [x0, x1, x2, x3, x4] (.int y :: .int x :: S) h P := q_icmp_ge (M := mX12_dayOn) (pc := 51) dX12_dayOn_51 (by decide) kt kf
theorem tX12_dayOn_54 {k : Nat} (r : RQ G mX12_dayOn d 55 [some (.ref k), x1, x2, x3, x4] (.ref k :: S) (h) P) : RQ G mX12_dayOn d 54 [some (.ref k), x1, x2, x3, x4] (S) h P := q_aload_n (M := mX12_dayOn) (pc := 54) (r0 := some k) dX12_dayOn_54 rfl rfl r
theorem tX12_dayOn_55 {v : Int32} (r : RQ G mX12_dayOn d 56 [x0, x1, some (.int v), x3, x4] (.int v :: S) (h) P) : RQ G mX12_dayOn d 55 [x0, x1, some (.int v), x3, x4] (S) h P := q_iload_n (M := mX12_dayOn) (pc := 55) dX12_dayOn_55 rfl rfl r
theorem tX12_dayOn_56 {v : Int32} (r : RQ G mX12_dayOn d 58 [x0, x1, x2, x3, some (.int v)] (.int v :: S) (h) P) : RQ G mX12_dayOn d 56 [x0, x1, x2, x3, some (.int v)] (S) h P := q_iload (M := mX12_dayOn) (pc := 56) dX12_dayOn_56 rfl r
theorem tX12_dayOn_58 {b d2 : Nat} {vs : List Value} {a0 : Int32} {a1 : Int32} {Q : AH → Prop} (hd : d2 + 1 ≤ d) (ha : At h b (.inr (10, vs))) (call : RQ G mX12_doIt d2 0 [some (.ref b), some (.int a0), some (.int a1), none, none] [] h (Rv Q)) (k : ∀ h1, Q h1 → RQ G mX12_dayOn d 61 [x0, x1, x2, x3, x4] S h1 P) (hst : (S.map fun v => v.category).sum ≤ 8 := by exact Nat.le_of_ble_eq_true rfl)  : RQ G mX12_dayOn d 58 [x0, x1, x2, x3, x4] (.int a1 :: .int a0 :: .ref b :: S) h P := q_callV (M := mX12_dayOn) (pc := 58) (M2 := mX12_doIt) (As := [.int a0, .int a1]) (n := 2) dX12_dayOn_58 rfl ⟨by decide, by decide, by decide, rfl⟩ rfl w1908 w1910 w102 w120 w1911 (show CL[10]? = some (RX12, TX12, 25) from rfl) hd (by decide) (Nat.le_of_ble_eq_true rfl) rfl ha hst call (callk_v k)
theorem tX12_dayOn_61 {v : Int32} (ho : ok1 x3 = true := by rfl) (r : RQ G mX12_dayOn d 64 [x0, x1, x2, x3, some (.int (v + (nI 1)))] (S) (h) P) : RQ G mX12_dayOn d 61 [x0, x1, x2, x3, some (.int v)] (S) h P := q_iinc (M := mX12_dayOn) (pc := 61) dX12_dayOn_61 rfl (congrArg (v + ·) (show Int32.ofInt (1) = (nI 1) by decide)) (Nat.le_of_ble_eq_true rfl) ho r
theorem tX12_dayOn_64 (r : RQ G mX12_dayOn d 40 [x0, x1, x2, x3, x4] S h P) : RQ G mX12_dayOn d 64 [x0, x1, x2, x3, x4] (S) h P := q_goto (M := mX12_dayOn) (pc := 64) dX12_dayOn_64 (by decide) r
theorem tX12_dayOn_67 {v : Int32} (r : RQ G mX12_dayOn d 68 [x0, some (.int v), x2, x3, x4] (.int v :: S) (h) P) : RQ G mX12_dayOn d 67 [x0, some (.int v), x2, x3, x4] (S) h P := q_iload_n (M := mX12_dayOn) (pc := 67) dX12_dayOn_67 rfl rfl r
theorem tX12_dayOn_68 {k : Nat} (r : RQ G mX12_dayOn d 69 [some (.ref k), x1, x2, x3, x4] (.ref k :: S) (h) P) : RQ G mX12_dayOn d 68 [some (.ref k), x1, x2, x3, x4] (S) h P := q_aload_n (M := mX12_dayOn) (pc := 68) (r0 := some k) dX12_dayOn_68 rfl rfl r
theorem tX12_dayOn_69 {i : Nat} {vs : List Value} {v : Value} (ha : At h i (.inr (10, vs))) (hv : vs[17]? = some v) (r : RQ G mX12_dayOn d 72 [x0, x1, x2, x3, x4] (v :: S) (h) P) : RQ G mX12_dayOn d 69 [x0, x1, x2, x3, x4] (.ref i :: S) h P := q_get (M := mX12_dayOn) (pc := 69) (kf := 17) dX12_dayOn_69 (show CL[10]? = some (RX12, TX12, 25) from rfl) inA12 (by decide) rfl w1440 ha hv r
theorem tX12_dayOn_72 {i : Nat} {vs : List Value} {v : Value} (ha : At h i (.inr (9, vs))) (hv : vs[14]? = some v) (r : RQ G mX12_dayOn d 75 [x0, x1, x2, x3, x4] (v :: S) (h) P) : RQ G mX12_dayOn d 72 [x0, x1, x2, x3, x4] (.ref i :: S) h P := q_getN (M := mX12_dayOn) (pc := 72) (kf := 14) dX12_dayOn_72 (show CL[9]? = some (RX11, TX11, 24) from rfl) inA11 (by decide) rfl v1348 ha hv r
theorem tX12_dayOn_75 {v : Int32} (r : RQ G mX12_dayOn d 76 [x0, x1, x2, some (.int v), x4] (.int v :: S) (h) P) : RQ G mX12_dayOn d 75 [x0, x1, x2, some (.int v), x4] (S) h P := q_iload_n (M := mX12_dayOn) (pc := 75) dX12_dayOn_75 rfl rfl r
theorem tX12_dayOn_76 {a n j : Nat} {x : Int32} {f : Nat → Int32} (ha : At h a (.inl (0, n, .inl f))) (hx : x = nI j) (hj : j < n) (hn : n < 2147483648) (r : RQ G mX12_dayOn d 77 [x0, x1, x2, x3, x4] (.int (f j) :: S) (h) P) : RQ G mX12_dayOn d 76 [x0, x1, x2, x3, x4] (.int x :: .ref a :: S) h P := q_iald (M := mX12_dayOn) (pc := 76) dX12_dayOn_76 ha hx hj hn r
theorem tX12_dayOn_77 {k : Nat} (r : RQ G mX12_dayOn d 78 [some (.ref k), x1, x2, x3, x4] (.ref k :: S) (h) P) : RQ G mX12_dayOn d 77 [some (.ref k), x1, x2, x3, x4] (S) h P := q_aload_n (M := mX12_dayOn) (pc := 77) (r0 := some k) dX12_dayOn_77 rfl rfl r
theorem tX12_dayOn_78 {i : Nat} {vs : List Value} {v : Value} (ha : At h i (.inr (10, vs))) (hv : vs[17]? = some v) (r : RQ G mX12_dayOn d 81 [x0, x1, x2, x3, x4] (v :: S) (h) P) : RQ G mX12_dayOn d 78 [x0, x1, x2, x3, x4] (.ref i :: S) h P := q_get (M := mX12_dayOn) (pc := 78) (kf := 17) dX12_dayOn_78 (show CL[10]? = some (RX12, TX12, 25) from rfl) inA12 (by decide) rfl w1440 ha hv r
theorem tX12_dayOn_81 {i : Nat} {vs : List Value} {v : Value} (ha : At h i (.inr (9, vs))) (hv : vs[13]? = some v) (r : RQ G mX12_dayOn d 84 [x0, x1, x2, x3, x4] (v :: S) (h) P) : RQ G mX12_dayOn d 81 [x0, x1, x2, x3, x4] (.ref i :: S) h P := q_getN (M := mX12_dayOn) (pc := 81) (kf := 13) dX12_dayOn_81 (show CL[9]? = some (RX11, TX11, 24) from rfl) inA11 (by decide) rfl v1346 ha hv r
theorem tX12_dayOn_84 {v : Int32} (r : RQ G mX12_dayOn d 85 [x0, x1, x2, some (.int v), x4] (.int v :: S) (h) P) : RQ G mX12_dayOn d 84 [x0, x1, x2, some (.int v), x4] (S) h P := q_iload_n (M := mX12_dayOn) (pc := 84) dX12_dayOn_84 rfl rfl r
theorem tX12_dayOn_85 {a n j : Nat} {x : Int32} {f : Nat → Int32} (ha : At h a (.inl (0, n, .inl f))) (hx : x = nI j) (hj : j < n) (hn : n < 2147483648) (r : RQ G mX12_dayOn d 86 [x0, x1, x2, x3, x4] (.int (f j) :: S) (h) P) : RQ G mX12_dayOn d 85 [x0, x1, x2, x3, x4] (.int x :: .ref a :: S) h P := q_iald (M := mX12_dayOn) (pc := 85) dX12_dayOn_85 ha hx hj hn r
theorem tX12_dayOn_86 {x y : Int32} (r : RQ G mX12_dayOn d 87 [x0, x1, x2, x3, x4] (.int (x - y) :: S) (h) P) : RQ G mX12_dayOn d 86 [x0, x1, x2, x3, x4] (.int y :: .int x :: S) h P := q_isub (M := mX12_dayOn) (pc := 86) dX12_dayOn_86 r
theorem tX12_dayOn_87 {x y : Int32} (r : RQ G mX12_dayOn d 88 [x0, x1, x2, x3, x4] (.int (x + y) :: S) (h) P) : RQ G mX12_dayOn d 87 [x0, x1, x2, x3, x4] (.int y :: .int x :: S) h P := q_iadd (M := mX12_dayOn) (pc := 87) dX12_dayOn_87 r
theorem tX12_dayOn_88 {v : Int32} (ho : ok1 x0 = true := by rfl) (r : RQ G mX12_dayOn d 89 [x0, some (.int v), x2, x3, x4] (S) (h) P) : RQ G mX12_dayOn d 88 [x0, x1, x2, x3, x4] (.int v :: S) h P := q_istore_n (M := mX12_dayOn) (pc := 88) dX12_dayOn_88 rfl (Nat.le_of_ble_eq_true rfl) ho r
theorem tX12_dayOn_89 {v : Int32} (ho : ok1 x1 = true := by rfl) (r : RQ G mX12_dayOn d 92 [x0, x1, some (.int (v + (nI 1))), x3, x4] (S) (h) P) : RQ G mX12_dayOn d 89 [x0, x1, some (.int v), x3, x4] (S) h P := q_iinc (M := mX12_dayOn) (pc := 89) dX12_dayOn_89 rfl (congrArg (v + ·) (show Int32.ofInt (1) = (nI 1) by decide)) (Nat.le_of_ble_eq_true rfl) ho r
theorem tX12_dayOn_92 (r : RQ G mX12_dayOn d 4 [x0, x1, x2, x3, x4] S h P) : RQ G mX12_dayOn d 92 [x0, x1, x2, x3, x4] (S) h P := q_goto (M := mX12_dayOn) (pc := 92) dX12_dayOn_92 (by decide) r
theorem tX12_dayOn_95 {k : Nat} (r : RQ G mX12_dayOn d 96 [some (.ref k), x1, x2, x3, x4] (.ref k :: S) (h) P) : RQ G mX12_dayOn d 95 [some (.ref k), x1, x2, x3, x4] (S) h P := q_aload_n (M := mX12_dayOn) (pc := 95) (r0 := some k) dX12_dayOn_95 rfl rfl r
theorem tX12_dayOn_96 {i : Nat} {vs : List Value} {v : Value} (ha : At h i (.inr (10, vs))) (hv : vs[20]? = some v) (r : RQ G mX12_dayOn d 99 [x0, x1, x2, x3, x4] (v :: S) (h) P) : RQ G mX12_dayOn d 96 [x0, x1, x2, x3, x4] (.ref i :: S) h P := q_get (M := mX12_dayOn) (pc := 96) (kf := 20) dX12_dayOn_96 (show CL[10]? = some (RX12, TX12, 25) from rfl) inA12 (by decide) rfl w1443 ha hv r
theorem tX12_dayOn_99 (r : RQ G mX12_dayOn d 100 [x0, x1, x2, x3, x4] (.int (nI 0) :: S) (h) P) : RQ G mX12_dayOn d 99 [x0, x1, x2, x3, x4] (S) h P := q_iconst (M := mX12_dayOn) (pc := 99) dX12_dayOn_99 (by decide) r
theorem tX12_dayOn_100 {v w : Value} (hv : ok1 (some v) = true := by rfl) (hw : ok1 (some w) = true := by rfl) (r : RQ G mX12_dayOn d 101 [x0, x1, x2, x3, x4] (v :: w :: v :: w :: S) (h) P) : RQ G mX12_dayOn d 100 [x0, x1, x2, x3, x4] (v :: w :: S) h P := q_dup2 (M := mX12_dayOn) (pc := 100) dX12_dayOn_100 hv hw r
theorem tX12_dayOn_101 {a n j : Nat} {x : Int32} {f : Nat → Int32} (ha : At h a (.inl (0, n, .inl f))) (hx : x = nI j) (hj : j < n) (hn : n < 2147483648) (r : RQ G mX12_dayOn d 102 [x0, x1, x2, x3, x4] (.int (f j) :: S) (h) P) : RQ G mX12_dayOn d 101 [x0, x1, x2, x3, x4] (.int x :: .ref a :: S) h P := q_iald (M := mX12_dayOn) (pc := 101) dX12_dayOn_101 ha hx hj hn r
theorem tX12_dayOn_102 (r : RQ G mX12_dayOn d 103 [x0, x1, x2, x3, x4] (.int (nI 1) :: S) (h) P) : RQ G mX12_dayOn d 102 [x0, x1, x2, x3, x4] (S) h P := q_iconst (M := mX12_dayOn) (pc := 102) dX12_dayOn_102 (by decide) r
theorem tX12_dayOn_103 {x y : Int32} (r : RQ G mX12_dayOn d 104 [x0, x1, x2, x3, x4] (.int (x + y) :: S) (h) P) : RQ G mX12_dayOn d 103 [x0, x1, x2, x3, x4] (.int y :: .int x :: S) h P := q_iadd (M := mX12_dayOn) (pc := 103) dX12_dayOn_103 r
theorem tX12_dayOn_104 {a n j : Nat} {x : Int32} {v : Int32} {f : Nat → Int32} (ha : At h a (.inl (0, n, .inl f))) (hx : x = nI j) (hj : j < n) (hn : n < 2147483648) (r : RQ G mX12_dayOn d 105 [x0, x1, x2, x3, x4] (S) (hset h a (.inl (0, n, .inl (upd f j v)))) P) : RQ G mX12_dayOn d 104 [x0, x1, x2, x3, x4] (.int v :: .int x :: .ref a :: S) h P := q_iast (M := mX12_dayOn) (pc := 104) dX12_dayOn_104 ha hx hj hn r
theorem tX12_dayOn_105 {v : Int32} (r : RQ G mX12_dayOn d 106 [x0, some (.int v), x2, x3, x4] (.int v :: S) (h) P) : RQ G mX12_dayOn d 105 [x0, some (.int v), x2, x3, x4] (S) h P := q_iload_n (M := mX12_dayOn) (pc := 105) dX12_dayOn_105 rfl rfl r
theorem tX12_dayOn_106 {x : Int32} (hP : P (.inl (some (.int x))) h) : RQ G mX12_dayOn d 106 [x0, x1, x2, x3, x4] ([.int x]) h P := q_ireturn (M := mX12_dayOn) (pc := 106) (ty := .int) dX12_dayOn_106 rfl rfl hP
end T
theorem dX12_keep_0 : decode cX12_keep 0 = .ok (.aload_n 0, 1) := by decide +kernel
theorem dX12_keep_1 : decode cX12_keep 1 = .ok (.getfield 51, 3) := by decide +kernel
theorem dX12_keep_4 : decode cX12_keep 4 = .ok (.iconst 0, 1) := by decide +kernel
theorem dX12_keep_5 : decode cX12_keep 5 = .ok (.aload_n 0, 1) := by decide +kernel
theorem dX12_keep_6 : decode cX12_keep 6 = .ok (.getfield 54, 3) := by decide +kernel
theorem dX12_keep_9 : decode cX12_keep 9 = .ok (.iconst 0, 1) := by decide +kernel
theorem dX12_keep_10 : decode cX12_keep 10 = .ok (.bipush 61, 2) := by decide +kernel
theorem dX12_keep_12 : decode cX12_keep 12 = .ok (.invokestatic 75, 3) := by decide +kernel
theorem dX12_keep_15 : decode cX12_keep 15 = .ok (.return_, 1) := by decide +kernel
section T
variable {G : GT} {d : Nat} {S : List Value} {h : AH} {P : OC → AH → Prop} {x0 x1 x2 x3 x4 x5 x6 x7 x8 x9 x10 x11 x12 x13 x14 x15 : Option Value}
theorem tX12_keep_0 {k : Nat} (r : RQ G mX12_keep d 1 [some (.ref k)] (.ref k :: S) (h) P) : RQ G mX12_keep d 0 [some (.ref k)] (S) h P := q_aload_n (M := mX12_keep) (pc := 0) (r0 := some k) dX12_keep_0 rfl rfl r
theorem tX12_keep_1 {i : Nat} {vs : List Value} {v : Value} (ha : At h i (.inr (10, vs))) (hv : vs[20]? = some v) (r : RQ G mX12_keep d 4 [x0] (v :: S) (h) P) : RQ G mX12_keep d 1 [x0] (.ref i :: S) h P := q_get (M := mX12_keep) (pc := 1) (kf := 20) dX12_keep_1 (show CL[10]? = some (RX12, TX12, 25) from rfl) inA12 (by decide) rfl w1443 ha hv r
theorem tX12_keep_4 (r : RQ G mX12_keep d 5 [x0] (.int (nI 0) :: S) (h) P) : RQ G mX12_keep d 4 [x0] (S) h P := q_iconst (M := mX12_keep) (pc := 4) dX12_keep_4 (by decide) r
theorem tX12_keep_5 {k : Nat} (r : RQ G mX12_keep d 6 [some (.ref k)] (.ref k :: S) (h) P) : RQ G mX12_keep d 5 [some (.ref k)] (S) h P := q_aload_n (M := mX12_keep) (pc := 5) (r0 := some k) dX12_keep_5 rfl rfl r
theorem tX12_keep_6 {i : Nat} {vs : List Value} {v : Value} (ha : At h i (.inr (10, vs))) (hv : vs[21]? = some v) (r : RQ G mX12_keep d 9 [x0] (v :: S) (h) P) : RQ G mX12_keep d 6 [x0] (.ref i :: S) h P := q_get (M := mX12_keep) (pc := 6) (kf := 21) dX12_keep_6 (show CL[10]? = some (RX12, TX12, 25) from rfl) inA12 (by decide) rfl w1444 ha hv r
theorem tX12_keep_9 (r : RQ G mX12_keep d 10 [x0] (.int (nI 0) :: S) (h) P) : RQ G mX12_keep d 9 [x0] (S) h P := q_iconst (M := mX12_keep) (pc := 9) dX12_keep_9 (by decide) r
theorem tX12_keep_10 (r : RQ G mX12_keep d 12 [x0] (.int (nI 61) :: S) (h) P) : RQ G mX12_keep d 10 [x0] (S) h P := q_bipush (M := mX12_keep) (pc := 10) dX12_keep_10 (by decide) r
theorem tX12_keep_12 {a0 a1 n0 n1 sp dp n : Nat} {xs xd xn : Int32} {f g : Nat → Int32} (hd : 2 ≤ d) (ha0 : At h a0 (.inl (0, n0, .inl f))) (ha1 : At h a1 (.inl (0, n1, .inl g))) (hxs : xs = nI sp) (hxd : xd = nI dp) (hxn : xn = nI n) (hb0 : sp + n ≤ n0) (hb1 : dp + n ≤ n1) (hn0 : n0 < 2147483648) (hn1 : n1 < 2147483648) (hst : (S.map fun v => v.category).sum ≤ 8 := by exact Nat.le_of_ble_eq_true rfl) (r : RQ G mX12_keep d 15 [x0] (S) (hset h a1 (.inl (0, n1, .inl (va_cpy f g sp dp n)))) P) : RQ G mX12_keep d 12 [x0] (.int xn :: .int xd :: .ref a1 :: .int xs :: .ref a0 :: S) h P := q_copy (M := mX12_keep) (pc := 12) dX12_keep_12 w1420 w1422 w1421 w122 hd hst ha0 ha1 hxs hxd hxn hb0 hb1 hn0 hn1 r
theorem tX12_keep_15 (hP : P (.inl none) h) : RQ G mX12_keep d 15 [x0] ([]) h P := q_return (M := mX12_keep) (pc := 15) dX12_keep_15 rfl hP
end T
theorem dX12_bringBack_0 : decode cX12_bringBack 0 = .ok (.aload_n 0, 1) := by decide +kernel
theorem dX12_bringBack_1 : decode cX12_bringBack 1 = .ok (.getfield 54, 3) := by decide +kernel
theorem dX12_bringBack_4 : decode cX12_bringBack 4 = .ok (.iconst 0, 1) := by decide +kernel
theorem dX12_bringBack_5 : decode cX12_bringBack 5 = .ok (.aload_n 0, 1) := by decide +kernel
theorem dX12_bringBack_6 : decode cX12_bringBack 6 = .ok (.getfield 51, 3) := by decide +kernel
theorem dX12_bringBack_9 : decode cX12_bringBack 9 = .ok (.iconst 0, 1) := by decide +kernel
theorem dX12_bringBack_10 : decode cX12_bringBack 10 = .ok (.bipush 61, 2) := by decide +kernel
theorem dX12_bringBack_12 : decode cX12_bringBack 12 = .ok (.invokestatic 75, 3) := by decide +kernel
theorem dX12_bringBack_15 : decode cX12_bringBack 15 = .ok (.return_, 1) := by decide +kernel
section T
variable {G : GT} {d : Nat} {S : List Value} {h : AH} {P : OC → AH → Prop} {x0 x1 x2 x3 x4 x5 x6 x7 x8 x9 x10 x11 x12 x13 x14 x15 : Option Value}
theorem tX12_bringBack_0 {k : Nat} (r : RQ G mX12_bringBack d 1 [some (.ref k)] (.ref k :: S) (h) P) : RQ G mX12_bringBack d 0 [some (.ref k)] (S) h P := q_aload_n (M := mX12_bringBack) (pc := 0) (r0 := some k) dX12_bringBack_0 rfl rfl r
theorem tX12_bringBack_1 {i : Nat} {vs : List Value} {v : Value} (ha : At h i (.inr (10, vs))) (hv : vs[21]? = some v) (r : RQ G mX12_bringBack d 4 [x0] (v :: S) (h) P) : RQ G mX12_bringBack d 1 [x0] (.ref i :: S) h P := q_get (M := mX12_bringBack) (pc := 1) (kf := 21) dX12_bringBack_1 (show CL[10]? = some (RX12, TX12, 25) from rfl) inA12 (by decide) rfl w1444 ha hv r
theorem tX12_bringBack_4 (r : RQ G mX12_bringBack d 5 [x0] (.int (nI 0) :: S) (h) P) : RQ G mX12_bringBack d 4 [x0] (S) h P := q_iconst (M := mX12_bringBack) (pc := 4) dX12_bringBack_4 (by decide) r
theorem tX12_bringBack_5 {k : Nat} (r : RQ G mX12_bringBack d 6 [some (.ref k)] (.ref k :: S) (h) P) : RQ G mX12_bringBack d 5 [some (.ref k)] (S) h P := q_aload_n (M := mX12_bringBack) (pc := 5) (r0 := some k) dX12_bringBack_5 rfl rfl r
theorem tX12_bringBack_6 {i : Nat} {vs : List Value} {v : Value} (ha : At h i (.inr (10, vs))) (hv : vs[20]? = some v) (r : RQ G mX12_bringBack d 9 [x0] (v :: S) (h) P) : RQ G mX12_bringBack d 6 [x0] (.ref i :: S) h P := q_get (M := mX12_bringBack) (pc := 6) (kf := 20) dX12_bringBack_6 (show CL[10]? = some (RX12, TX12, 25) from rfl) inA12 (by decide) rfl w1443 ha hv r
theorem tX12_bringBack_9 (r : RQ G mX12_bringBack d 10 [x0] (.int (nI 0) :: S) (h) P) : RQ G mX12_bringBack d 9 [x0] (S) h P := q_iconst (M := mX12_bringBack) (pc := 9) dX12_bringBack_9 (by decide) r
theorem tX12_bringBack_10 (r : RQ G mX12_bringBack d 12 [x0] (.int (nI 61) :: S) (h) P) : RQ G mX12_bringBack d 10 [x0] (S) h P := q_bipush (M := mX12_bringBack) (pc := 10) dX12_bringBack_10 (by decide) r
theorem tX12_bringBack_12 {a0 a1 n0 n1 sp dp n : Nat} {xs xd xn : Int32} {f g : Nat → Int32} (hd : 2 ≤ d) (ha0 : At h a0 (.inl (0, n0, .inl f))) (ha1 : At h a1 (.inl (0, n1, .inl g))) (hxs : xs = nI sp) (hxd : xd = nI dp) (hxn : xn = nI n) (hb0 : sp + n ≤ n0) (hb1 : dp + n ≤ n1) (hn0 : n0 < 2147483648) (hn1 : n1 < 2147483648) (hst : (S.map fun v => v.category).sum ≤ 8 := by exact Nat.le_of_ble_eq_true rfl) (r : RQ G mX12_bringBack d 15 [x0] (S) (hset h a1 (.inl (0, n1, .inl (va_cpy f g sp dp n)))) P) : RQ G mX12_bringBack d 12 [x0] (.int xn :: .int xd :: .ref a1 :: .int xs :: .ref a0 :: S) h P := q_copy (M := mX12_bringBack) (pc := 12) dX12_bringBack_12 w1420 w1422 w1421 w122 hd hst ha0 ha1 hxs hxd hxn hb0 hb1 hn0 hn1 r
theorem tX12_bringBack_15 (hP : P (.inl none) h) : RQ G mX12_bringBack d 15 [x0] ([]) h P := q_return (M := mX12_bringBack) (pc := 15) dX12_bringBack_15 rfl hP
end T
theorem dX12_isLabel_0 : decode cX12_isLabel 0 = .ok (.iload_n 1, 1) := by decide +kernel
theorem dX12_isLabel_1 : decode cX12_isLabel 1 = .ok (.iconst 0, 1) := by decide +kernel
theorem dX12_isLabel_2 : decode cX12_isLabel 2 = .ok (.aload_n 0, 1) := by decide +kernel
theorem dX12_isLabel_3 : decode cX12_isLabel 3 = .ok (.getfield 41, 3) := by decide +kernel
theorem dX12_isLabel_6 : decode cX12_isLabel 6 = .ok (.getfield 253, 3) := by decide +kernel
theorem dX12_isLabel_9 : decode cX12_isLabel 9 = .ok (.iconst 1, 1) := by decide +kernel
theorem dX12_isLabel_10 : decode cX12_isLabel 10 = .ok (.isub, 1) := by decide +kernel
theorem dX12_isLabel_11 : decode cX12_isLabel 11 = .ok (.invokestatic 84, 3) := by decide +kernel
theorem dX12_isLabel_14 : decode cX12_isLabel 14 = .ok (.ireturn, 1) := by decide +kernel
section T
variable {G : GT} {d : Nat} {S : List Value} {h : AH} {P : OC → AH → Prop} {x0 x1 x2 x3 x4 x5 x6 x7 x8 x9 x10 x11 x12 x13 x14 x15 : Option Value}
theorem tX12_isLabel_0 {v : Int32} (r : RQ G mX12_isLabel d 1 [x0, some (.int v)] (.int v :: S) (h) P) : RQ G mX12_isLabel d 0 [x0, some (.int v)] (S) h P := q_iload_n (M := mX12_isLabel) (pc := 0) dX12_isLabel_0 rfl rfl r
theorem tX12_isLabel_1 (r : RQ G mX12_isLabel d 2 [x0, x1] (.int (nI 0) :: S) (h) P) : RQ G mX12_isLabel d 1 [x0, x1] (S) h P := q_iconst (M := mX12_isLabel) (pc := 1) dX12_isLabel_1 (by decide) r
theorem tX12_isLabel_2 {k : Nat} (r : RQ G mX12_isLabel d 3 [some (.ref k), x1] (.ref k :: S) (h) P) : RQ G mX12_isLabel d 2 [some (.ref k), x1] (S) h P := q_aload_n (M := mX12_isLabel) (pc := 2) (r0 := some k) dX12_isLabel_2 rfl rfl r
theorem tX12_isLabel_3 {i : Nat} {vs : List Value} {v : Value} (ha : At h i (.inr (10, vs))) (hv : vs[17]? = some v) (r : RQ G mX12_isLabel d 6 [x0, x1] (v :: S) (h) P) : RQ G mX12_isLabel d 3 [x0, x1] (.ref i :: S) h P := q_get (M := mX12_isLabel) (pc := 3) (kf := 17) dX12_isLabel_3 (show CL[10]? = some (RX12, TX12, 25) from rfl) inA12 (by decide) rfl w1440 ha hv r
theorem tX12_isLabel_6 {i : Nat} {vs : List Value} {v : Value} (ha : At h i (.inr (9, vs))) (hv : vs[0]? = some v) (r : RQ G mX12_isLabel d 9 [x0, x1] (v :: S) (h) P) : RQ G mX12_isLabel d 6 [x0, x1] (.ref i :: S) h P := q_getN (M := mX12_isLabel) (pc := 6) (kf := 0) dX12_isLabel_6 (show CL[9]? = some (RX11, TX11, 24) from rfl) inA11 (by decide) rfl v1320 ha hv r
theorem tX12_isLabel_9 (r : RQ G mX12_isLabel d 10 [x0, x1] (.int (nI 1) :: S) (h) P) : RQ G mX12_isLabel d 9 [x0, x1] (S) h P := q_iconst (M := mX12_isLabel) (pc := 9) dX12_isLabel_9 (by decide) r
theorem tX12_isLabel_10 {x y : Int32} (r : RQ G mX12_isLabel d 11 [x0, x1] (.int (x - y) :: S) (h) P) : RQ G mX12_isLabel d 10 [x0, x1] (.int y :: .int x :: S) h P := q_isub (M := mX12_isLabel) (pc := 10) dX12_isLabel_10 r
theorem tX12_isLabel_11 {d2 : Nat} {a0 : Int32} {a1 : Int32} {a2 : Int32} {Q : Int32 → AH → Prop} (hd : d2 + 1 ≤ d) (call : RQ G mX12_isIn d2 0 [some (.int a0), some (.int a1), some (.int a2)] [] h (Ri Q)) (k : ∀ x h1, Q x h1 → RQ G mX12_isLabel d 14 [x0, x1] (.int x :: S) h1 P) (hst : (S.map fun v => v.category).sum ≤ 8 := by exact Nat.le_of_ble_eq_true rfl)  : RQ G mX12_isLabel d 11 [x0, x1] (.int a2 :: .int a1 :: .int a0 :: S) h P := q_callS (M := mX12_isLabel) (pc := 11) (M2 := mX12_isIn) (As := [.int a0, .int a1, .int a2]) (n := 3) dX12_isLabel_11 ⟨by decide, by decide, by decide, rfl⟩ rfl w1515 w1516 w120 w1517 hd (by decide) (Nat.le_of_ble_eq_true rfl) rfl hst call (callk_i k)
theorem tX12_isLabel_14 {x : Int32} (hb : x = nI 0 ∨ x = nI 1) (hP : P (.inl (some (.int x))) h) : RQ G mX12_isLabel d 14 [x0, x1] ([.int x]) h P := q_ireturn (M := mX12_isLabel) (pc := 14) (ty := .boolean) dX12_isLabel_14 rfl (nar_bool hb) hP
end T
theorem dX12_isJar_0 : decode cX12_isJar 0 = .ok (.iload_n 1, 1) := by decide +kernel
theorem dX12_isJar_1 : decode cX12_isJar 1 = .ok (.iconst 0, 1) := by decide +kernel
theorem dX12_isJar_2 : decode cX12_isJar 2 = .ok (.aload_n 0, 1) := by decide +kernel
theorem dX12_isJar_3 : decode cX12_isJar 3 = .ok (.getfield 41, 3) := by decide +kernel
theorem dX12_isJar_6 : decode cX12_isJar 6 = .ok (.getfield 259, 3) := by decide +kernel
theorem dX12_isJar_9 : decode cX12_isJar 9 = .ok (.iconst 1, 1) := by decide +kernel
theorem dX12_isJar_10 : decode cX12_isJar 10 = .ok (.isub, 1) := by decide +kernel
theorem dX12_isJar_11 : decode cX12_isJar 11 = .ok (.invokestatic 84, 3) := by decide +kernel
theorem dX12_isJar_14 : decode cX12_isJar 14 = .ok (.ireturn, 1) := by decide +kernel
section T
variable {G : GT} {d : Nat} {S : List Value} {h : AH} {P : OC → AH → Prop} {x0 x1 x2 x3 x4 x5 x6 x7 x8 x9 x10 x11 x12 x13 x14 x15 : Option Value}
theorem tX12_isJar_0 {v : Int32} (r : RQ G mX12_isJar d 1 [x0, some (.int v)] (.int v :: S) (h) P) : RQ G mX12_isJar d 0 [x0, some (.int v)] (S) h P := q_iload_n (M := mX12_isJar) (pc := 0) dX12_isJar_0 rfl rfl r
theorem tX12_isJar_1 (r : RQ G mX12_isJar d 2 [x0, x1] (.int (nI 0) :: S) (h) P) : RQ G mX12_isJar d 1 [x0, x1] (S) h P := q_iconst (M := mX12_isJar) (pc := 1) dX12_isJar_1 (by decide) r
theorem tX12_isJar_2 {k : Nat} (r : RQ G mX12_isJar d 3 [some (.ref k), x1] (.ref k :: S) (h) P) : RQ G mX12_isJar d 2 [some (.ref k), x1] (S) h P := q_aload_n (M := mX12_isJar) (pc := 2) (r0 := some k) dX12_isJar_2 rfl rfl r
theorem tX12_isJar_3 {i : Nat} {vs : List Value} {v : Value} (ha : At h i (.inr (10, vs))) (hv : vs[17]? = some v) (r : RQ G mX12_isJar d 6 [x0, x1] (v :: S) (h) P) : RQ G mX12_isJar d 3 [x0, x1] (.ref i :: S) h P := q_get (M := mX12_isJar) (pc := 3) (kf := 17) dX12_isJar_3 (show CL[10]? = some (RX12, TX12, 25) from rfl) inA12 (by decide) rfl w1440 ha hv r
theorem tX12_isJar_6 {i : Nat} {vs : List Value} {v : Value} (ha : At h i (.inr (9, vs))) (hv : vs[1]? = some v) (r : RQ G mX12_isJar d 9 [x0, x1] (v :: S) (h) P) : RQ G mX12_isJar d 6 [x0, x1] (.ref i :: S) h P := q_getN (M := mX12_isJar) (pc := 6) (kf := 1) dX12_isJar_6 (show CL[9]? = some (RX11, TX11, 24) from rfl) inA11 (by decide) rfl v1322 ha hv r
theorem tX12_isJar_9 (r : RQ G mX12_isJar d 10 [x0, x1] (.int (nI 1) :: S) (h) P) : RQ G mX12_isJar d 9 [x0, x1] (S) h P := q_iconst (M := mX12_isJar) (pc := 9) dX12_isJar_9 (by decide) r
theorem tX12_isJar_10 {x y : Int32} (r : RQ G mX12_isJar d 11 [x0, x1] (.int (x - y) :: S) (h) P) : RQ G mX12_isJar d 10 [x0, x1] (.int y :: .int x :: S) h P := q_isub (M := mX12_isJar) (pc := 10) dX12_isJar_10 r
theorem tX12_isJar_11 {d2 : Nat} {a0 : Int32} {a1 : Int32} {a2 : Int32} {Q : Int32 → AH → Prop} (hd : d2 + 1 ≤ d) (call : RQ G mX12_isIn d2 0 [some (.int a0), some (.int a1), some (.int a2)] [] h (Ri Q)) (k : ∀ x h1, Q x h1 → RQ G mX12_isJar d 14 [x0, x1] (.int x :: S) h1 P) (hst : (S.map fun v => v.category).sum ≤ 8 := by exact Nat.le_of_ble_eq_true rfl)  : RQ G mX12_isJar d 11 [x0, x1] (.int a2 :: .int a1 :: .int a0 :: S) h P := q_callS (M := mX12_isJar) (pc := 11) (M2 := mX12_isIn) (As := [.int a0, .int a1, .int a2]) (n := 3) dX12_isJar_11 ⟨by decide, by decide, by decide, rfl⟩ rfl w1515 w1516 w120 w1517 hd (by decide) (Nat.le_of_ble_eq_true rfl) rfl hst call (callk_i k)
theorem tX12_isJar_14 {x : Int32} (hb : x = nI 0 ∨ x = nI 1) (hP : P (.inl (some (.int x))) h) : RQ G mX12_isJar d 14 [x0, x1] ([.int x]) h P := q_ireturn (M := mX12_isJar) (pc := 14) (ty := .boolean) dX12_isJar_14 rfl (nar_bool hb) hP
end T
theorem dX12_isLid_0 : decode cX12_isLid 0 = .ok (.iload_n 1, 1) := by decide +kernel
theorem dX12_isLid_1 : decode cX12_isLid 1 = .ok (.iconst 0, 1) := by decide +kernel
theorem dX12_isLid_2 : decode cX12_isLid 2 = .ok (.aload_n 0, 1) := by decide +kernel
theorem dX12_isLid_3 : decode cX12_isLid 3 = .ok (.getfield 41, 3) := by decide +kernel
theorem dX12_isLid_6 : decode cX12_isLid 6 = .ok (.getfield 275, 3) := by decide +kernel
theorem dX12_isLid_9 : decode cX12_isLid 9 = .ok (.iconst 1, 1) := by decide +kernel
theorem dX12_isLid_10 : decode cX12_isLid 10 = .ok (.isub, 1) := by decide +kernel
theorem dX12_isLid_11 : decode cX12_isLid 11 = .ok (.invokestatic 84, 3) := by decide +kernel
theorem dX12_isLid_14 : decode cX12_isLid 14 = .ok (.ireturn, 1) := by decide +kernel
section T
variable {G : GT} {d : Nat} {S : List Value} {h : AH} {P : OC → AH → Prop} {x0 x1 x2 x3 x4 x5 x6 x7 x8 x9 x10 x11 x12 x13 x14 x15 : Option Value}
theorem tX12_isLid_0 {v : Int32} (r : RQ G mX12_isLid d 1 [x0, some (.int v)] (.int v :: S) (h) P) : RQ G mX12_isLid d 0 [x0, some (.int v)] (S) h P := q_iload_n (M := mX12_isLid) (pc := 0) dX12_isLid_0 rfl rfl r
theorem tX12_isLid_1 (r : RQ G mX12_isLid d 2 [x0, x1] (.int (nI 0) :: S) (h) P) : RQ G mX12_isLid d 1 [x0, x1] (S) h P := q_iconst (M := mX12_isLid) (pc := 1) dX12_isLid_1 (by decide) r
theorem tX12_isLid_2 {k : Nat} (r : RQ G mX12_isLid d 3 [some (.ref k), x1] (.ref k :: S) (h) P) : RQ G mX12_isLid d 2 [some (.ref k), x1] (S) h P := q_aload_n (M := mX12_isLid) (pc := 2) (r0 := some k) dX12_isLid_2 rfl rfl r
theorem tX12_isLid_3 {i : Nat} {vs : List Value} {v : Value} (ha : At h i (.inr (10, vs))) (hv : vs[17]? = some v) (r : RQ G mX12_isLid d 6 [x0, x1] (v :: S) (h) P) : RQ G mX12_isLid d 3 [x0, x1] (.ref i :: S) h P := q_get (M := mX12_isLid) (pc := 3) (kf := 17) dX12_isLid_3 (show CL[10]? = some (RX12, TX12, 25) from rfl) inA12 (by decide) rfl w1440 ha hv r
theorem tX12_isLid_6 {i : Nat} {vs : List Value} {v : Value} (ha : At h i (.inr (9, vs))) (hv : vs[5]? = some v) (r : RQ G mX12_isLid d 9 [x0, x1] (v :: S) (h) P) : RQ G mX12_isLid d 6 [x0, x1] (.ref i :: S) h P := q_getN (M := mX12_isLid) (pc := 6) (kf := 5) dX12_isLid_6 (show CL[9]? = some (RX11, TX11, 24) from rfl) inA11 (by decide) rfl v1330 ha hv r
theorem tX12_isLid_9 (r : RQ G mX12_isLid d 10 [x0, x1] (.int (nI 1) :: S) (h) P) : RQ G mX12_isLid d 9 [x0, x1] (S) h P := q_iconst (M := mX12_isLid) (pc := 9) dX12_isLid_9 (by decide) r
theorem tX12_isLid_10 {x y : Int32} (r : RQ G mX12_isLid d 11 [x0, x1] (.int (x - y) :: S) (h) P) : RQ G mX12_isLid d 10 [x0, x1] (.int y :: .int x :: S) h P := q_isub (M := mX12_isLid) (pc := 10) dX12_isLid_10 r
theorem tX12_isLid_11 {d2 : Nat} {a0 : Int32} {a1 : Int32} {a2 : Int32} {Q : Int32 → AH → Prop} (hd : d2 + 1 ≤ d) (call : RQ G mX12_isIn d2 0 [some (.int a0), some (.int a1), some (.int a2)] [] h (Ri Q)) (k : ∀ x h1, Q x h1 → RQ G mX12_isLid d 14 [x0, x1] (.int x :: S) h1 P) (hst : (S.map fun v => v.category).sum ≤ 8 := by exact Nat.le_of_ble_eq_true rfl)  : RQ G mX12_isLid d 11 [x0, x1] (.int a2 :: .int a1 :: .int a0 :: S) h P := q_callS (M := mX12_isLid) (pc := 11) (M2 := mX12_isIn) (As := [.int a0, .int a1, .int a2]) (n := 3) dX12_isLid_11 ⟨by decide, by decide, by decide, rfl⟩ rfl w1515 w1516 w120 w1517 hd (by decide) (Nat.le_of_ble_eq_true rfl) rfl hst call (callk_i k)
theorem tX12_isLid_14 {x : Int32} (hb : x = nI 0 ∨ x = nI 1) (hP : P (.inl (some (.int x))) h) : RQ G mX12_isLid d 14 [x0, x1] ([.int x]) h P := q_ireturn (M := mX12_isLid) (pc := 14) (ty := .boolean) dX12_isLid_14 rfl (nar_bool hb) hP
end T
theorem dX12_labels_0 : decode cX12_labels 0 = .ok (.aload_n 0, 1) := by decide +kernel
theorem dX12_labels_1 : decode cX12_labels 1 = .ok (.aload_n 0, 1) := by decide +kernel
theorem dX12_labels_2 : decode cX12_labels 2 = .ok (.getfield 41, 3) := by decide +kernel
theorem dX12_labels_5 : decode cX12_labels 5 = .ok (.getfield 253, 3) := by decide +kernel
theorem dX12_labels_8 : decode cX12_labels 8 = .ok (.invokevirtual 312, 3) := by decide +kernel
theorem dX12_labels_11 : decode cX12_labels 11 = .ok (.ireturn, 1) := by decide +kernel
section T
variable {G : GT} {d : Nat} {S : List Value} {h : AH} {P : OC → AH → Prop} {x0 x1 x2 x3 x4 x5 x6 x7 x8 x9 x10 x11 x12 x13 x14 x15 : Option Value}
theorem tX12_labels_0 {k : Nat} (r : RQ G mX12_labels d 1 [some (.ref k)] (.ref k :: S) (h) P) : RQ G mX12_labels d 0 [some (.ref k)] (S) h P := q_aload_n (M := mX12_labels) (pc := 0) (r0 := some k) dX12_labels_0 rfl rfl r
theorem tX12_labels_1 {k : Nat} (r : RQ G mX12_labels d 2 [some (.ref k)] (.ref k :: S) (h) P) : RQ G mX12_labels d 1 [some (.ref k)] (S) h P := q_aload_n (M := mX12_labels) (pc := 1) (r0 := some k) dX12_labels_1 rfl rfl r
theorem tX12_labels_2 {i : Nat} {vs : List Value} {v : Value} (ha : At h i (.inr (10, vs))) (hv : vs[17]? = some v) (r : RQ G mX12_labels d 5 [x0] (v :: S) (h) P) : RQ G mX12_labels d 2 [x0] (.ref i :: S) h P := q_get (M := mX12_labels) (pc := 2) (kf := 17) dX12_labels_2 (show CL[10]? = some (RX12, TX12, 25) from rfl) inA12 (by decide) rfl w1440 ha hv r
theorem tX12_labels_5 {i : Nat} {vs : List Value} {v : Value} (ha : At h i (.inr (9, vs))) (hv : vs[0]? = some v) (r : RQ G mX12_labels d 8 [x0] (v :: S) (h) P) : RQ G mX12_labels d 5 [x0] (.ref i :: S) h P := q_getN (M := mX12_labels) (pc := 5) (kf := 0) dX12_labels_5 (show CL[9]? = some (RX11, TX11, 24) from rfl) inA11 (by decide) rfl v1320 ha hv r
theorem tX12_labels_8 {b d2 : Nat} {vs : List Value} {a0 : Int32} {Q : Int32 → AH → Prop} (hd : d2 + 1 ≤ d) (ha : At h b (.inr (10, vs))) (call : RQ G mX12_ok d2 0 [some (.ref b), some (.int a0)] [] h (Ri Q)) (k : ∀ x h1, Q x h1 → RQ G mX12_labels d 11 [x0] (.int x :: S) h1 P) (hst : (S.map fun v => v.category).sum ≤ 8 := by exact Nat.le_of_ble_eq_true rfl)  : RQ G mX12_labels d 8 [x0] (.int a0 :: .ref b :: S) h P := q_callV (M := mX12_labels) (pc := 8) (M2 := mX12_ok) (As := [.int a0]) (n := 1) dX12_labels_8 rfl ⟨by decide, by decide, by decide, rfl⟩ rfl w1676 w1678 w73 w120 w1679 (show CL[10]? = some (RX12, TX12, 25) from rfl) hd (by decide) (Nat.le_of_ble_eq_true rfl) rfl ha hst call (callk_i k)
theorem tX12_labels_11 {x : Int32} (hP : P (.inl (some (.int x))) h) : RQ G mX12_labels d 11 [x0] ([.int x]) h P := q_ireturn (M := mX12_labels) (pc := 11) (ty := .int) dX12_labels_11 rfl rfl hP
end T
theorem dX12_jars_0 : decode cX12_jars 0 = .ok (.aload_n 0, 1) := by decide +kernel
theorem dX12_jars_1 : decode cX12_jars 1 = .ok (.aload_n 0, 1) := by decide +kernel
theorem dX12_jars_2 : decode cX12_jars 2 = .ok (.getfield 41, 3) := by decide +kernel
theorem dX12_jars_5 : decode cX12_jars 5 = .ok (.getfield 259, 3) := by decide +kernel
theorem dX12_jars_8 : decode cX12_jars 8 = .ok (.invokevirtual 312, 3) := by decide +kernel
theorem dX12_jars_11 : decode cX12_jars 11 = .ok (.ireturn, 1) := by decide +kernel
section T
variable {G : GT} {d : Nat} {S : List Value} {h : AH} {P : OC → AH → Prop} {x0 x1 x2 x3 x4 x5 x6 x7 x8 x9 x10 x11 x12 x13 x14 x15 : Option Value}
theorem tX12_jars_0 {k : Nat} (r : RQ G mX12_jars d 1 [some (.ref k)] (.ref k :: S) (h) P) : RQ G mX12_jars d 0 [some (.ref k)] (S) h P := q_aload_n (M := mX12_jars) (pc := 0) (r0 := some k) dX12_jars_0 rfl rfl r
theorem tX12_jars_1 {k : Nat} (r : RQ G mX12_jars d 2 [some (.ref k)] (.ref k :: S) (h) P) : RQ G mX12_jars d 1 [some (.ref k)] (S) h P := q_aload_n (M := mX12_jars) (pc := 1) (r0 := some k) dX12_jars_1 rfl rfl r
theorem tX12_jars_2 {i : Nat} {vs : List Value} {v : Value} (ha : At h i (.inr (10, vs))) (hv : vs[17]? = some v) (r : RQ G mX12_jars d 5 [x0] (v :: S) (h) P) : RQ G mX12_jars d 2 [x0] (.ref i :: S) h P := q_get (M := mX12_jars) (pc := 2) (kf := 17) dX12_jars_2 (show CL[10]? = some (RX12, TX12, 25) from rfl) inA12 (by decide) rfl w1440 ha hv r
theorem tX12_jars_5 {i : Nat} {vs : List Value} {v : Value} (ha : At h i (.inr (9, vs))) (hv : vs[1]? = some v) (r : RQ G mX12_jars d 8 [x0] (v :: S) (h) P) : RQ G mX12_jars d 5 [x0] (.ref i :: S) h P := q_getN (M := mX12_jars) (pc := 5) (kf := 1) dX12_jars_5 (show CL[9]? = some (RX11, TX11, 24) from rfl) inA11 (by decide) rfl v1322 ha hv r
theorem tX12_jars_8 {b d2 : Nat} {vs : List Value} {a0 : Int32} {Q : Int32 → AH → Prop} (hd : d2 + 1 ≤ d) (ha : At h b (.inr (10, vs))) (call : RQ G mX12_ok d2 0 [some (.ref b), some (.int a0)] [] h (Ri Q)) (k : ∀ x h1, Q x h1 → RQ G mX12_jars d 11 [x0] (.int x :: S) h1 P) (hst : (S.map fun v => v.category).sum ≤ 8 := by exact Nat.le_of_ble_eq_true rfl)  : RQ G mX12_jars d 8 [x0] (.int a0 :: .ref b :: S) h P := q_callV (M := mX12_jars) (pc := 8) (M2 := mX12_ok) (As := [.int a0]) (n := 1) dX12_jars_8 rfl ⟨by decide, by decide, by decide, rfl⟩ rfl w1676 w1678 w73 w120 w1679 (show CL[10]? = some (RX12, TX12, 25) from rfl) hd (by decide) (Nat.le_of_ble_eq_true rfl) rfl ha hst call (callk_i k)
theorem tX12_jars_11 {x : Int32} (hP : P (.inl (some (.int x))) h) : RQ G mX12_jars d 11 [x0] ([.int x]) h P := q_ireturn (M := mX12_jars) (pc := 11) (ty := .int) dX12_jars_11 rfl rfl hP
end T
theorem dX12_lids_0 : decode cX12_lids 0 = .ok (.aload_n 0, 1) := by decide +kernel
theorem dX12_lids_1 : decode cX12_lids 1 = .ok (.aload_n 0, 1) := by decide +kernel
theorem dX12_lids_2 : decode cX12_lids 2 = .ok (.getfield 41, 3) := by decide +kernel
theorem dX12_lids_5 : decode cX12_lids 5 = .ok (.getfield 275, 3) := by decide +kernel
theorem dX12_lids_8 : decode cX12_lids 8 = .ok (.invokevirtual 312, 3) := by decide +kernel
theorem dX12_lids_11 : decode cX12_lids 11 = .ok (.ireturn, 1) := by decide +kernel
section T
variable {G : GT} {d : Nat} {S : List Value} {h : AH} {P : OC → AH → Prop} {x0 x1 x2 x3 x4 x5 x6 x7 x8 x9 x10 x11 x12 x13 x14 x15 : Option Value}
theorem tX12_lids_0 {k : Nat} (r : RQ G mX12_lids d 1 [some (.ref k)] (.ref k :: S) (h) P) : RQ G mX12_lids d 0 [some (.ref k)] (S) h P := q_aload_n (M := mX12_lids) (pc := 0) (r0 := some k) dX12_lids_0 rfl rfl r
theorem tX12_lids_1 {k : Nat} (r : RQ G mX12_lids d 2 [some (.ref k)] (.ref k :: S) (h) P) : RQ G mX12_lids d 1 [some (.ref k)] (S) h P := q_aload_n (M := mX12_lids) (pc := 1) (r0 := some k) dX12_lids_1 rfl rfl r
theorem tX12_lids_2 {i : Nat} {vs : List Value} {v : Value} (ha : At h i (.inr (10, vs))) (hv : vs[17]? = some v) (r : RQ G mX12_lids d 5 [x0] (v :: S) (h) P) : RQ G mX12_lids d 2 [x0] (.ref i :: S) h P := q_get (M := mX12_lids) (pc := 2) (kf := 17) dX12_lids_2 (show CL[10]? = some (RX12, TX12, 25) from rfl) inA12 (by decide) rfl w1440 ha hv r
theorem tX12_lids_5 {i : Nat} {vs : List Value} {v : Value} (ha : At h i (.inr (9, vs))) (hv : vs[5]? = some v) (r : RQ G mX12_lids d 8 [x0] (v :: S) (h) P) : RQ G mX12_lids d 5 [x0] (.ref i :: S) h P := q_getN (M := mX12_lids) (pc := 5) (kf := 5) dX12_lids_5 (show CL[9]? = some (RX11, TX11, 24) from rfl) inA11 (by decide) rfl v1330 ha hv r
theorem tX12_lids_8 {b d2 : Nat} {vs : List Value} {a0 : Int32} {Q : Int32 → AH → Prop} (hd : d2 + 1 ≤ d) (ha : At h b (.inr (10, vs))) (call : RQ G mX12_ok d2 0 [some (.ref b), some (.int a0)] [] h (Ri Q)) (k : ∀ x h1, Q x h1 → RQ G mX12_lids d 11 [x0] (.int x :: S) h1 P) (hst : (S.map fun v => v.category).sum ≤ 8 := by exact Nat.le_of_ble_eq_true rfl)  : RQ G mX12_lids d 8 [x0] (.int a0 :: .ref b :: S) h P := q_callV (M := mX12_lids) (pc := 8) (M2 := mX12_ok) (As := [.int a0]) (n := 1) dX12_lids_8 rfl ⟨by decide, by decide, by decide, rfl⟩ rfl w1676 w1678 w73 w120 w1679 (show CL[10]? = some (RX12, TX12, 25) from rfl) hd (by decide) (Nat.le_of_ble_eq_true rfl) rfl ha hst call (callk_i k)
theorem tX12_lids_11 {x : Int32} (hP : P (.inl (some (.int x))) h) : RQ G mX12_lids d 11 [x0] ([.int x]) h P := q_ireturn (M := mX12_lids) (pc := 11) (ty := .int) dX12_lids_11 rfl rfl hP
end T
theorem dX12_days_0 : decode cX12_days 0 = .ok (.aload_n 0, 1) := by decide +kernel
theorem dX12_days_1 : decode cX12_days 1 = .ok (.aload_n 0, 1) := by decide +kernel
theorem dX12_days_2 : decode cX12_days 2 = .ok (.getfield 51, 3) := by decide +kernel
theorem dX12_days_5 : decode cX12_days 5 = .ok (.iconst 0, 1) := by decide +kernel
theorem dX12_days_6 : decode cX12_days 6 = .ok (.iaload, 1) := by decide +kernel
theorem dX12_days_7 : decode cX12_days 7 = .ok (.invokevirtual 312, 3) := by decide +kernel
theorem dX12_days_10 : decode cX12_days 10 = .ok (.ireturn, 1) := by decide +kernel
section T
variable {G : GT} {d : Nat} {S : List Value} {h : AH} {P : OC → AH → Prop} {x0 x1 x2 x3 x4 x5 x6 x7 x8 x9 x10 x11 x12 x13 x14 x15 : Option Value}
theorem tX12_days_0 {k : Nat} (r : RQ G mX12_days d 1 [some (.ref k)] (.ref k :: S) (h) P) : RQ G mX12_days d 0 [some (.ref k)] (S) h P := q_aload_n (M := mX12_days) (pc := 0) (r0 := some k) dX12_days_0 rfl rfl r
theorem tX12_days_1 {k : Nat} (r : RQ G mX12_days d 2 [some (.ref k)] (.ref k :: S) (h) P) : RQ G mX12_days d 1 [some (.ref k)] (S) h P := q_aload_n (M := mX12_days) (pc := 1) (r0 := some k) dX12_days_1 rfl rfl r
theorem tX12_days_2 {i : Nat} {vs : List Value} {v : Value} (ha : At h i (.inr (10, vs))) (hv : vs[20]? = some v) (r : RQ G mX12_days d 5 [x0] (v :: S) (h) P) : RQ G mX12_days d 2 [x0] (.ref i :: S) h P := q_get (M := mX12_days) (pc := 2) (kf := 20) dX12_days_2 (show CL[10]? = some (RX12, TX12, 25) from rfl) inA12 (by decide) rfl w1443 ha hv r
theorem tX12_days_5 (r : RQ G mX12_days d 6 [x0] (.int (nI 0) :: S) (h) P) : RQ G mX12_days d 5 [x0] (S) h P := q_iconst (M := mX12_days) (pc := 5) dX12_days_5 (by decide) r
theorem tX12_days_6 {a n j : Nat} {x : Int32} {f : Nat → Int32} (ha : At h a (.inl (0, n, .inl f))) (hx : x = nI j) (hj : j < n) (hn : n < 2147483648) (r : RQ G mX12_days d 7 [x0] (.int (f j) :: S) (h) P) : RQ G mX12_days d 6 [x0] (.int x :: .ref a :: S) h P := q_iald (M := mX12_days) (pc := 6) dX12_days_6 ha hx hj hn r
theorem tX12_days_7 {b d2 : Nat} {vs : List Value} {a0 : Int32} {Q : Int32 → AH → Prop} (hd : d2 + 1 ≤ d) (ha : At h b (.inr (10, vs))) (call : RQ G mX12_ok d2 0 [some (.ref b), some (.int a0)] [] h (Ri Q)) (k : ∀ x h1, Q x h1 → RQ G mX12_days d 10 [x0] (.int x :: S) h1 P) (hst : (S.map fun v => v.category).sum ≤ 8 := by exact Nat.le_of_ble_eq_true rfl)  : RQ G mX12_days d 7 [x0] (.int a0 :: .ref b :: S) h P := q_callV (M := mX12_days) (pc := 7) (M2 := mX12_ok) (As := [.int a0]) (n := 1) dX12_days_7 rfl ⟨by decide, by decide, by decide, rfl⟩ rfl w1676 w1678 w73 w120 w1679 (show CL[10]? = some (RX12, TX12, 25) from rfl) hd (by decide) (Nat.le_of_ble_eq_true rfl) rfl ha hst call (callk_i k)
theorem tX12_days_10 {x : Int32} (hP : P (.inl (some (.int x))) h) : RQ G mX12_days d 10 [x0] ([.int x]) h P := q_ireturn (M := mX12_days) (pc := 10) (ty := .int) dX12_days_10 rfl rfl hP
end T
theorem dX12_leaders_0 : decode cX12_leaders 0 = .ok (.iconst 0, 1) := by decide +kernel
theorem dX12_leaders_1 : decode cX12_leaders 1 = .ok (.istore_n 1, 1) := by decide +kernel
theorem dX12_leaders_2 : decode cX12_leaders 2 = .ok (.iconst 0, 1) := by decide +kernel
theorem dX12_leaders_3 : decode cX12_leaders 3 = .ok (.istore_n 2, 1) := by decide +kernel
theorem dX12_leaders_4 : decode cX12_leaders 4 = .ok (.iload_n 2, 1) := by decide +kernel
theorem dX12_leaders_5 : decode cX12_leaders 5 = .ok (.aload_n 0, 1) := by decide +kernel
theorem dX12_leaders_6 : decode cX12_leaders 6 = .ok (.getfield 41, 3) := by decide +kernel
theorem dX12_leaders_9 : decode cX12_leaders 9 = .ok (.getfield 253, 3) := by decide +kernel
theorem dX12_leaders_12 : decode cX12_leaders 12 = .ok (.if_icmp .ge 30, 3) := by decide +kernel
theorem dX12_leaders_15 : decode cX12_leaders 15 = .ok (.iload_n 1, 1) := by decide +kernel
theorem dX12_leaders_16 : decode cX12_leaders 16 = .ok (.aload_n 0, 1) := by decide +kernel
theorem dX12_leaders_17 : decode cX12_leaders 17 = .ok (.getfield 51, 3) := by decide +kernel
theorem dX12_leaders_20 : decode cX12_leaders 20 = .ok (.bipush 49, 2) := by decide +kernel
theorem dX12_leaders_22 : decode cX12_leaders 22 = .ok (.iload_n 2, 1) := by decide +kernel
theorem dX12_leaders_23 : decode cX12_leaders 23 = .ok (.iadd, 1) := by decide +kernel
theorem dX12_leaders_24 : decode cX12_leaders 24 = .ok (.iaload, 1) := by decide +kernel
theorem dX12_leaders_25 : decode cX12_leaders 25 = .ok (.iconst (-1), 1) := by decide +kernel
theorem dX12_leaders_26 : decode cX12_leaders 26 = .ok (.if_icmp .ne 7, 3) := by decide +kernel
theorem dX12_leaders_29 : decode cX12_leaders 29 = .ok (.iconst 1, 1) := by decide +kernel
theorem dX12_leaders_30 : decode cX12_leaders 30 = .ok (.goto 4, 3) := by decide +kernel
theorem dX12_leaders_33 : decode cX12_leaders 33 = .ok (.iconst 0, 1) := by decide +kernel
theorem dX12_leaders_34 : decode cX12_leaders 34 = .ok (.iadd, 1) := by decide +kernel
theorem dX12_leaders_35 : decode cX12_leaders 35 = .ok (.istore_n 1, 1) := by decide +kernel
theorem dX12_leaders_36 : decode cX12_leaders 36 = .ok (.iinc 2 1, 3) := by decide +kernel
theorem dX12_leaders_39 : decode cX12_leaders 39 = .ok (.goto (-35), 3) := by decide +kernel
theorem dX12_leaders_42 : decode cX12_leaders 42 = .ok (.iload_n 1, 1) := by decide +kernel
theorem dX12_leaders_43 : decode cX12_leaders 43 = .ok (.ireturn, 1) := by decide +kernel
section T
variable {G : GT} {d : Nat} {S : List Value} {h : AH} {P : OC → AH → Prop} {x0 x1 x2 x3 x4 x5 x6 x7 x8 x9 x10 x11 x12 x13 x14 x15 : Option Value}
theorem tX12_leaders_0 (r : RQ G mX12_leaders d 1 [x0, x1, x2] (.int (nI 0) :: S) (h) P) : RQ G mX12_leaders d 0 [x0, x1, x2] (S) h P := q_iconst (M := mX12_leaders) (pc := 0) dX12_leaders_0 (by decide) r
theorem tX12_leaders_1 {v : Int32} (ho : ok1 x0 = true := by rfl) (r : RQ G mX12_leaders d 2 [x0, some (.int v), x2] (S) (h) P) : RQ G mX12_leaders d 1 [x0, x1, x2] (.int v :: S) h P := q_istore_n (M := mX12_leaders) (pc := 1) dX12_leaders_1 rfl (Nat.le_of_ble_eq_true rfl) ho r
theorem tX12_leaders_2 (r : RQ G mX12_leaders d 3 [x0, x1, x2] (.int (nI 0) :: S) (h) P) : RQ G mX12_leaders d 2 [x0, x1, x2] (S) h P := q_iconst (M := mX12_leaders) (pc := 2) dX12_leaders_2 (by decide) r
theorem tX12_leaders_3 {v : Int32} (ho : ok1 x1 = true := by rfl) (r : RQ G mX12_leaders d 4 [x0, x1, some (.int v)] (S) (h) P) : RQ G mX12_leaders d 3 [x0, x1, x2] (.int v :: S) h P := q_istore_n (M := mX12_leaders) (pc := 3) dX12_leaders_3 rfl (Nat.le_of_ble_eq_true rfl) ho r
theorem tX12_leaders_4 {v : Int32} (r : RQ G mX12_leaders d 5 [x0, x1, some (.int v)] (.int v :: S) (h) P) : RQ G mX12_leaders d 4 [x0, x1, some (.int v)] (S) h P := q_iload_n (M := mX12_leaders) (pc := 4) dX12_leaders_4 rfl rfl r
theorem tX12_leaders_5 {k : Nat} (r : RQ G mX12_leaders d 6 [some (.ref k), x1, x2] (.ref k :: S) (h) P) : RQ G mX12_leaders d 5 [some (.ref k), x1, x2] (S) h P := q_aload_n (M := mX12_leaders) (pc := 5) (r0 := some k) dX12_leaders_5 rfl rfl r
theorem tX12_leaders_6 {i : Nat} {vs : List Value} {v : Value} (ha : At h i (.inr (10, vs))) (hv : vs[17]? = some v) (r : RQ G mX12_leaders d 9 [x0, x1, x2] (v :: S) (h) P) : RQ G mX12_leaders d 6 [x0, x1, x2] (.ref i :: S) h P := q_get (M := mX12_leaders) (pc := 6) (kf := 17) dX12_leaders_6 (show CL[10]? = some (RX12, TX12, 25) from rfl) inA12 (by decide) rfl w1440 ha hv r
theorem tX12_leaders_9 {i : Nat} {vs : List Value} {v : Value} (ha : At h i (.inr (9, vs))) (hv : vs[0]? = some v) (r : RQ G mX12_leaders d 12 [x0, x1, x2] (v :: S) (h) P) : RQ G mX12_leaders d 9 [x0, x1, x2] (.ref i :: S) h P := q_getN (M := mX12_leaders) (pc := 9) (kf := 0) dX12_leaders_9 (show CL[9]? = some (RX11, TX11, 24) from rfl) inA11 (by decide) rfl v1320 ha hv r
theorem tX12_leaders_12 {x y : Int32} (kt : y ≤ x → RQ G mX12_leaders d 42 [x0, x1, x2] S h P) (kf : ¬ y ≤ x → RQ G mX12_leaders d 15 [x0, x1, x2] S h P) : RQ G mX12_leaders d 12 [x0, x1, x2] (.int y :: .int x :: S) h P := q_icmp_ge (M := mX12_leaders) (pc := 12) dX12_leaders_12 (by decide) kt kf
theorem tX12_leaders_15 {v : Int32} (r : RQ G mX12_leaders d 16 [x0, some (.int v), x2] (.int v :: S) (h) P) : RQ G mX12_leaders d 15 [x0, some (.int v), x2] (S) h P := q_iload_n (M := mX12_leaders) (pc := 15) dX12_leaders_15 rfl rfl r
theorem tX12_leaders_16 {k : Nat} (r : RQ G mX12_leaders d 17 [some (.ref k), x1, x2] (.ref k :: S) (h) P) : RQ G mX12_leaders d 16 [some (.ref k), x1, x2] (S) h P := q_aload_n (M := mX12_leaders) (pc := 16) (r0 := some k) dX12_leaders_16 rfl rfl r
theorem tX12_leaders_17 {i : Nat} {vs : List Value} {v : Value} (ha : At h i (.inr (10, vs))) (hv : vs[20]? = some v) (r : RQ G mX12_leaders d 20 [x0, x1, x2] (v :: S) (h) P) : RQ G mX12_leaders d 17 [x0, x1, x2] (.ref i :: S) h P := q_get (M := mX12_leaders) (pc := 17) (kf := 20) dX12_leaders_17 (show CL[10]? = some (RX12, TX12, 25) from rfl) inA12 (by decide) rfl w1443 ha hv r
theorem tX12_leaders_20 (r : RQ G mX12_leaders d 22 [x0, x1, x2] (.int (nI 49) :: S) (h) P) : RQ G mX12_leaders d 20 [x0, x1, x2] (S) h P := q_bipush (M := mX12_leaders) (pc := 20) dX12_leaders_20 (by decide) r
theorem tX12_leaders_22 {v : Int32} (r : RQ G mX12_leaders d 23 [x0, x1, some (.int v)] (.int v :: S) (h) P) : RQ G mX12_leaders d 22 [x0, x1, some (.int v)] (S) h P := q_iload_n (M := mX12_leaders) (pc := 22) dX12_leaders_22 rfl rfl r
theorem tX12_leaders_23 {x y : Int32} (r : RQ G mX12_leaders d 24 [x0, x1, x2] (.int (x + y) :: S) (h) P) : RQ G mX12_leaders d 23 [x0, x1, x2] (.int y :: .int x :: S) h P := q_iadd (M := mX12_leaders) (pc := 23) dX12_leaders_23 r
theorem tX12_leaders_24 {a n j : Nat} {x : Int32} {f : Nat → Int32} (ha : At h a (.inl (0, n, .inl f))) (hx : x = nI j) (hj : j < n) (hn : n < 2147483648) (r : RQ G mX12_leaders d 25 [x0, x1, x2] (.int (f j) :: S) (h) P) : RQ G mX12_leaders d 24 [x0, x1, x2] (.int x :: .ref a :: S) h P := q_iald (M := mX12_leaders) (pc := 24) dX12_leaders_24 ha hx hj hn r
theorem tX12_leaders_25 (r : RQ G mX12_leaders d 26 [x0, x1, x2] (.int (-1) :: S) (h) P) : RQ G mX12_leaders d 25 [x0, x1, x2] (S) h P := q_iconst (M := mX12_leaders) (pc := 25) dX12_leaders_25 (by decide) r
theorem tX12_leaders_26 {x y : Int32} (kt : ¬ x = y → RQ G mX12_leaders d 33 [x0, x1, x2] S h P) (kf : x = y → RQ G mX12_leaders d 29 [x0, x1, x2] S h P) : RQ G mX12_leaders d 26 [x0, x1, x2] (.int y :: .int x :: S) h P := q_icmp_ne (M := mX12_leaders) (pc := 26) dX12_leaders_26 (by decide) kt kf
theorem tX12_leaders_29 (r : RQ G mX12_leaders d 30 [x0, x1, x2] (.int (nI 1) :: S) (h) P) : RQ G mX12_leaders d 29 [x0, x1, x2] (S) h P := q_iconst (M := mX12_leaders) (pc := 29) dX12_leaders_29 (by decide) r
theorem tX12_leaders_30 (r : RQ G mX12_leaders d 34 [x0, x1, x2] S h P) : RQ G mX12_leaders d 30 [x0, x1, x2] (S) h P := q_goto (M := mX12_leaders) (pc := 30) dX12_leaders_30 (by decide) r
theorem tX12_leaders_33 (r : RQ G mX12_leaders d 34 [x0, x1, x2] (.int (nI 0) :: S) (h) P) : RQ G mX12_leaders d 33 [x0, x1, x2] (S) h P := q_iconst (M := mX12_leaders) (pc := 33) dX12_leaders_33 (by decide) r
theorem tX12_leaders_34 {x y : Int32} (r : RQ G mX12_leaders d 35 [x0, x1, x2] (.int (x + y) :: S) (h) P) : RQ G mX12_leaders d 34 [x0, x1, x2] (.int y :: .int x :: S) h P := q_iadd (M := mX12_leaders) (pc := 34) dX12_leaders_34 r
theorem tX12_leaders_35 {v : Int32} (ho : ok1 x0 = true := by rfl) (r : RQ G mX12_leaders d 36 [x0, some (.int v), x2] (S) (h) P) : RQ G mX12_leaders d 35 [x0, x1, x2] (.int v :: S) h P := q_istore_n (M := mX12_leaders) (pc := 35) dX12_leaders_35 rfl (Nat.le_of_ble_eq_true rfl) ho r
theorem tX12_leaders_36 {v : Int32} (ho : ok1 x1 = true := by rfl) (r : RQ G mX12_leaders d 39 [x0, x1, some (.int (v + (nI 1)))] (S) (h) P) : RQ G mX12_leaders d 36 [x0, x1, some (.int v)] (S) h P := q_iinc (M := mX12_leaders) (pc := 36) dX12_leaders_36 rfl (congrArg (v + ·) (show Int32.ofInt (1) = (nI 1) by decide)) (Nat.le_of_ble_eq_true rfl) ho r
theorem tX12_leaders_39 (r : RQ G mX12_leaders d 4 [x0, x1, x2] S h P) : RQ G mX12_leaders d 39 [x0, x1, x2] (S) h P := q_goto (M := mX12_leaders) (pc := 39) dX12_leaders_39 (by decide) r
theorem tX12_leaders_42 {v : Int32} (r : RQ G mX12_leaders d 43 [x0, some (.int v), x2] (.int v :: S) (h) P) : RQ G mX12_leaders d 42 [x0, some (.int v), x2] (S) h P := q_iload_n (M := mX12_leaders) (pc := 42) dX12_leaders_42 rfl rfl r
theorem tX12_leaders_43 {x : Int32} (hP : P (.inl (some (.int x))) h) : RQ G mX12_leaders d 43 [x0, x1, x2] ([.int x]) h P := q_ireturn (M := mX12_leaders) (pc := 43) (ty := .int) dX12_leaders_43 rfl rfl hP
end T
theorem dX12_alliances_0 : decode cX12_alliances 0 = .ok (.aload_n 0, 1) := by decide +kernel
theorem dX12_alliances_1 : decode cX12_alliances 1 = .ok (.aload_n 0, 1) := by decide +kernel
theorem dX12_alliances_2 : decode cX12_alliances 2 = .ok (.invokevirtual 379, 3) := by decide +kernel
theorem dX12_alliances_5 : decode cX12_alliances 5 = .ok (.invokevirtual 312, 3) := by decide +kernel
theorem dX12_alliances_8 : decode cX12_alliances 8 = .ok (.ireturn, 1) := by decide +kernel
section T
variable {G : GT} {d : Nat} {S : List Value} {h : AH} {P : OC → AH → Prop} {x0 x1 x2 x3 x4 x5 x6 x7 x8 x9 x10 x11 x12 x13 x14 x15 : Option Value}
theorem tX12_alliances_0 {k : Nat} (r : RQ G mX12_alliances d 1 [some (.ref k)] (.ref k :: S) (h) P) : RQ G mX12_alliances d 0 [some (.ref k)] (S) h P := q_aload_n (M := mX12_alliances) (pc := 0) (r0 := some k) dX12_alliances_0 rfl rfl r
theorem tX12_alliances_1 {k : Nat} (r : RQ G mX12_alliances d 2 [some (.ref k)] (.ref k :: S) (h) P) : RQ G mX12_alliances d 1 [some (.ref k)] (S) h P := q_aload_n (M := mX12_alliances) (pc := 1) (r0 := some k) dX12_alliances_1 rfl rfl r
theorem tX12_alliances_2 {b d2 : Nat} {vs : List Value}  {Q : Int32 → AH → Prop} (hd : d2 + 1 ≤ d) (ha : At h b (.inr (10, vs))) (call : RQ G mX12_leaders d2 0 [some (.ref b), none, none] [] h (Ri Q)) (k : ∀ x h1, Q x h1 → RQ G mX12_alliances d 5 [x0] (.int x :: S) h1 P) (hst : (S.map fun v => v.category).sum ≤ 8 := by exact Nat.le_of_ble_eq_true rfl)  : RQ G mX12_alliances d 2 [x0] (.ref b :: S) h P := q_callV (M := mX12_alliances) (pc := 2) (M2 := mX12_leaders) (As := []) (n := 0) dX12_alliances_2 rfl ⟨by decide, by decide, by decide, rfl⟩ rfl w1700 w1702 w74 w120 w1703 (show CL[10]? = some (RX12, TX12, 25) from rfl) hd (by decide) (Nat.le_of_ble_eq_true rfl) rfl ha hst call (callk_i k)
theorem tX12_alliances_5 {b d2 : Nat} {vs : List Value} {a0 : Int32} {Q : Int32 → AH → Prop} (hd : d2 + 1 ≤ d) (ha : At h b (.inr (10, vs))) (call : RQ G mX12_ok d2 0 [some (.ref b), some (.int a0)] [] h (Ri Q)) (k : ∀ x h1, Q x h1 → RQ G mX12_alliances d 8 [x0] (.int x :: S) h1 P) (hst : (S.map fun v => v.category).sum ≤ 8 := by exact Nat.le_of_ble_eq_true rfl)  : RQ G mX12_alliances d 5 [x0] (.int a0 :: .ref b :: S) h P := q_callV (M := mX12_alliances) (pc := 5) (M2 := mX12_ok) (As := [.int a0]) (n := 1) dX12_alliances_5 rfl ⟨by decide, by decide, by decide, rfl⟩ rfl w1676 w1678 w73 w120 w1679 (show CL[10]? = some (RX12, TX12, 25) from rfl) hd (by decide) (Nat.le_of_ble_eq_true rfl) rfl ha hst call (callk_i k)
theorem tX12_alliances_8 {x : Int32} (hP : P (.inl (some (.int x))) h) : RQ G mX12_alliances d 8 [x0] ([.int x]) h P := q_ireturn (M := mX12_alliances) (pc := 8) (ty := .int) dX12_alliances_8 rfl rfl hP
end T
theorem dX12_beansIn_0 : decode cX12_beansIn 0 = .ok (.aload_n 0, 1) := by decide +kernel
theorem dX12_beansIn_1 : decode cX12_beansIn 1 = .ok (.iconst 0, 1) := by decide +kernel
theorem dX12_beansIn_2 : decode cX12_beansIn 2 = .ok (.putfield 69, 3) := by decide +kernel
theorem dX12_beansIn_5 : decode cX12_beansIn 5 = .ok (.aload_n 0, 1) := by decide +kernel
theorem dX12_beansIn_6 : decode cX12_beansIn 6 = .ok (.iload_n 1, 1) := by decide +kernel
theorem dX12_beansIn_7 : decode cX12_beansIn 7 = .ok (.invokevirtual 382, 3) := by decide +kernel
theorem dX12_beansIn_10 : decode cX12_beansIn 10 = .ok (.ifCond .eq 20, 3) := by decide +kernel
theorem dX12_beansIn_13 : decode cX12_beansIn 13 = .ok (.aload_n 0, 1) := by decide +kernel
theorem dX12_beansIn_14 : decode cX12_beansIn 14 = .ok (.iload_n 2, 1) := by decide +kernel
theorem dX12_beansIn_15 : decode cX12_beansIn 15 = .ok (.invokevirtual 385, 3) := by decide +kernel
theorem dX12_beansIn_18 : decode cX12_beansIn 18 = .ok (.ifCond .eq 12, 3) := by decide +kernel
theorem dX12_beansIn_21 : decode cX12_beansIn 21 = .ok (.aload_n 0, 1) := by decide +kernel
theorem dX12_beansIn_22 : decode cX12_beansIn 22 = .ok (.iload_n 1, 1) := by decide +kernel
theorem dX12_beansIn_23 : decode cX12_beansIn 23 = .ok (.iload_n 2, 1) := by decide +kernel
theorem dX12_beansIn_24 : decode cX12_beansIn 24 = .ok (.invokevirtual 315, 3) := by decide +kernel
theorem dX12_beansIn_27 : decode cX12_beansIn 27 = .ok (.goto 8, 3) := by decide +kernel
theorem dX12_beansIn_30 : decode cX12_beansIn 30 = .ok (.aload_n 0, 1) := by decide +kernel
theorem dX12_beansIn_31 : decode cX12_beansIn 31 = .ok (.iconst 1, 1) := by decide +kernel
theorem dX12_beansIn_32 : decode cX12_beansIn 32 = .ok (.invokevirtual 296, 3) := by decide +kernel
theorem dX12_beansIn_35 : decode cX12_beansIn 35 = .ok (.ireturn, 1) := by decide +kernel
section T
variable {G : GT} {d : Nat} {S : List Value} {h : AH} {P : OC → AH → Prop} {x0 x1 x2 x3 x4 x5 x6 x7 x8 x9 x10 x11 x12 x13 x14 x15 : Option Value}
theorem tX12_beansIn_0 {k : Nat} (r : RQ G mX12_beansIn d 1 [some (.ref k), x1, x2] (.ref k :: S) (h) P) : RQ G mX12_beansIn d 0 [some (.ref k), x1, x2] (S) h P := q_aload_n (M := mX12_beansIn) (pc := 0) (r0 := some k) dX12_beansIn_0 rfl rfl r
theorem tX12_beansIn_1 (r : RQ G mX12_beansIn d 2 [x0, x1, x2] (.int (nI 0) :: S) (h) P) : RQ G mX12_beansIn d 1 [x0, x1, x2] (S) h P := q_iconst (M := mX12_beansIn) (pc := 1) dX12_beansIn_1 (by decide) r
theorem tX12_beansIn_2 {i : Nat} {vs : List Value} {v : Int32} (ha : At h i (.inr (10, vs))) (hlen : vs.length = 25) (r : RQ G mX12_beansIn d 5 [x0, x1, x2] (S) (hset h i (.inr (10, vs.set 0 (.int v)))) P) : RQ G mX12_beansIn d 2 [x0, x1, x2] (.int v :: .ref i :: S) h P := q_put (M := mX12_beansIn) (pc := 2) (kf := 0) (host := "") dX12_beansIn_2 (show CL[10]? = some (RX12, TX12, 25) from rfl) inA12 tyX12_ok nmX12 (by decide) rfl w1423 rfl (tyX12_ok 0 (by decide)) (nfit_int v) (by rw [hlen]; decide) ha r
theorem tX12_beansIn_5 {k : Nat} (r : RQ G mX12_beansIn d 6 [some (.ref k), x1, x2] (.ref k :: S) (h) P) : RQ G mX12_beansIn d 5 [some (.ref k), x1, x2] (S) h P := q_aload_n (M := mX12_beansIn) (pc := 5) (r0 := some k) dX12_beansIn_5 rfl rfl r
theorem tX12_beansIn_6 {v : Int32} (r : RQ G mX12_beansIn d 7 [x0, some (.int v), x2] (.int v :: S) (h) P) : RQ G mX12_beansIn d 6 [x0, some (.int v), x2] (S) h P := q_iload_n (M := mX12_beansIn) (pc := 6) dX12_beansIn_6 rfl rfl r
theorem tX12_beansIn_7 {b d2 : Nat} {vs : List Value} {a0 : Int32} {Q : Int32 → AH → Prop} (hd : d2 + 1 ≤ d) (ha : At h b (.inr (10, vs))) (call : RQ G mX12_isJar d2 0 [some (.ref b), some (.int a0)] [] h (Ri Q)) (k : ∀ x h1, Q x h1 → RQ G mX12_beansIn d 10 [x0, x1, x2] (.int x :: S) h1 P) (hst : (S.map fun v => v.category).sum ≤ 8 := by exact Nat.le_of_ble_eq_true rfl)  : RQ G mX12_beansIn d 7 [x0, x1, x2] (.int a0 :: .ref b :: S) h P := q_callV (M := mX12_beansIn) (pc := 7) (M2 := mX12_isJar) (As := [.int a0]) (n := 1) dX12_beansIn_7 rfl ⟨by decide, by decide, by decide, rfl⟩ rfl w1708 w1710 w75 w120 w1711 (show CL[10]? = some (RX12, TX12, 25) from rfl) hd (by decide) (Nat.le_of_ble_eq_true rfl) rfl ha hst call (callk_i k)
theorem tX12_beansIn_10 {x : Int32} (kt : x = 0 → RQ G mX12_beansIn d 30 [x0, x1, x2] S h P) (kf : ¬ x = 0 → RQ G mX12_beansIn d 13 [x0, x1, x2] S h P) : RQ G mX12_beansIn d 10 [x0, x1, x2] (.int x :: S) h P := q_if_eq (M := mX12_beansIn) (pc := 10) dX12_beansIn_10 (by decide) kt kf
theorem tX12_beansIn_13 {k : Nat} (r : RQ G mX12_beansIn d 14 [some (.ref k), x1, x2] (.ref k :: S) (h) P) : RQ G mX12_beansIn d 13 [some (.ref k), x1, x2] (S) h P := q_aload_n (M := mX12_beansIn) (pc := 13) (r0 := some k) dX12_beansIn_13 rfl rfl r
theorem tX12_beansIn_14 {v : Int32} (r : RQ G mX12_beansIn d 15 [x0, x1, some (.int v)] (.int v :: S) (h) P) : RQ G mX12_beansIn d 14 [x0, x1, some (.int v)] (S) h P := q_iload_n (M := mX12_beansIn) (pc := 14) dX12_beansIn_14 rfl rfl r
theorem tX12_beansIn_15 {b d2 : Nat} {vs : List Value} {a0 : Int32} {Q : Int32 → AH → Prop} (hd : d2 + 1 ≤ d) (ha : At h b (.inr (10, vs))) (call : RQ G mX12_isLabel d2 0 [some (.ref b), some (.int a0)] [] h (Ri Q)) (k : ∀ x h1, Q x h1 → RQ G mX12_beansIn d 18 [x0, x1, x2] (.int x :: S) h1 P) (hst : (S.map fun v => v.category).sum ≤ 8 := by exact Nat.le_of_ble_eq_true rfl)  : RQ G mX12_beansIn d 15 [x0, x1, x2] (.int a0 :: .ref b :: S) h P := q_callV (M := mX12_beansIn) (pc := 15) (M2 := mX12_isLabel) (As := [.int a0]) (n := 1) dX12_beansIn_15 rfl ⟨by decide, by decide, by decide, rfl⟩ rfl w1712 w1714 w76 w120 w1715 (show CL[10]? = some (RX12, TX12, 25) from rfl) hd (by decide) (Nat.le_of_ble_eq_true rfl) rfl ha hst call (callk_i k)
theorem tX12_beansIn_18 {x : Int32} (kt : x = 0 → RQ G mX12_beansIn d 30 [x0, x1, x2] S h P) (kf : ¬ x = 0 → RQ G mX12_beansIn d 21 [x0, x1, x2] S h P) : RQ G mX12_beansIn d 18 [x0, x1, x2] (.int x :: S) h P := q_if_eq (M := mX12_beansIn) (pc := 18) dX12_beansIn_18 (by decide) kt kf
theorem tX12_beansIn_21 {k : Nat} (r : RQ G mX12_beansIn d 22 [some (.ref k), x1, x2] (.ref k :: S) (h) P) : RQ G mX12_beansIn d 21 [some (.ref k), x1, x2] (S) h P := q_aload_n (M := mX12_beansIn) (pc := 21) (r0 := some k) dX12_beansIn_21 rfl rfl r
theorem tX12_beansIn_22 {v : Int32} (r : RQ G mX12_beansIn d 23 [x0, some (.int v), x2] (.int v :: S) (h) P) : RQ G mX12_beansIn d 22 [x0, some (.int v), x2] (S) h P := q_iload_n (M := mX12_beansIn) (pc := 22) dX12_beansIn_22 rfl rfl r
theorem tX12_beansIn_23 {v : Int32} (r : RQ G mX12_beansIn d 24 [x0, x1, some (.int v)] (.int v :: S) (h) P) : RQ G mX12_beansIn d 23 [x0, x1, some (.int v)] (S) h P := q_iload_n (M := mX12_beansIn) (pc := 23) dX12_beansIn_23 rfl rfl r
theorem tX12_beansIn_24 {b d2 : Nat} {vs : List Value} {a0 : Int32} {a1 : Int32} {Q : Int32 → AH → Prop} (hd : d2 + 1 ≤ d) (ha : At h b (.inr (10, vs))) (call : RQ G mX12_held d2 0 [some (.ref b), some (.int a0), some (.int a1)] [] h (Ri Q)) (k : ∀ x h1, Q x h1 → RQ G mX12_beansIn d 27 [x0, x1, x2] (.int x :: S) h1 P) (hst : (S.map fun v => v.category).sum ≤ 8 := by exact Nat.le_of_ble_eq_true rfl)  : RQ G mX12_beansIn d 24 [x0, x1, x2] (.int a1 :: .int a0 :: .ref b :: S) h P := q_callV (M := mX12_beansIn) (pc := 24) (M2 := mX12_held) (As := [.int a0, .int a1]) (n := 2) dX12_beansIn_24 rfl ⟨by decide, by decide, by decide, rfl⟩ rfl w1716 w1718 w77 w120 w1719 (show CL[10]? = some (RX12, TX12, 25) from rfl) hd (by decide) (Nat.le_of_ble_eq_true rfl) rfl ha hst call (callk_i k)
theorem tX12_beansIn_27 (r : RQ G mX12_beansIn d 35 [x0, x1, x2] S h P) : RQ G mX12_beansIn d 27 [x0, x1, x2] (S) h P := q_goto (M := mX12_beansIn) (pc := 27) dX12_beansIn_27 (by decide) r
theorem tX12_beansIn_30 {k : Nat} (r : RQ G mX12_beansIn d 31 [some (.ref k), x1, x2] (.ref k :: S) (h) P) : RQ G mX12_beansIn d 30 [some (.ref k), x1, x2] (S) h P := q_aload_n (M := mX12_beansIn) (pc := 30) (r0 := some k) dX12_beansIn_30 rfl rfl r
theorem tX12_beansIn_31 (r : RQ G mX12_beansIn d 32 [x0, x1, x2] (.int (nI 1) :: S) (h) P) : RQ G mX12_beansIn d 31 [x0, x1, x2] (S) h P := q_iconst (M := mX12_beansIn) (pc := 31) dX12_beansIn_31 (by decide) r
theorem tX12_beansIn_32 {b d2 : Nat} {vs : List Value} {a0 : Int32} {Q : Int32 → AH → Prop} (hd : d2 + 1 ≤ d) (ha : At h b (.inr (10, vs))) (call : RQ G mX12_no d2 0 [some (.ref b), some (.int a0)] [] h (Ri Q)) (k : ∀ x h1, Q x h1 → RQ G mX12_beansIn d 35 [x0, x1, x2] (.int x :: S) h1 P) (hst : (S.map fun v => v.category).sum ≤ 8 := by exact Nat.le_of_ble_eq_true rfl)  : RQ G mX12_beansIn d 32 [x0, x1, x2] (.int a0 :: .ref b :: S) h P := q_callV (M := mX12_beansIn) (pc := 32) (M2 := mX12_no) (As := [.int a0]) (n := 1) dX12_beansIn_32 rfl ⟨by decide, by decide, by decide, rfl⟩ rfl w1507 w1509 w41 w120 w1510 (show CL[10]? = some (RX12, TX12, 25) from rfl) hd (by decide) (Nat.le_of_ble_eq_true rfl) rfl ha hst call (callk_i k)
theorem tX12_beansIn_35 {x : Int32} (hP : P (.inl (some (.int x))) h) : RQ G mX12_beansIn d 35 [x0, x1, x2] ([.int x]) h P := q_ireturn (M := mX12_beansIn) (pc := 35) (ty := .int) dX12_beansIn_35 rfl rfl hP
end T
theorem dX12_beansInAll_0 : decode cX12_beansInAll 0 = .ok (.iconst 0, 1) := by decide +kernel
theorem dX12_beansInAll_1 : decode cX12_beansInAll 1 = .ok (.istore_n 2, 1) := by decide +kernel
theorem dX12_beansInAll_2 : decode cX12_beansInAll 2 = .ok (.iconst 0, 1) := by decide +kernel
theorem dX12_beansInAll_3 : decode cX12_beansInAll 3 = .ok (.istore_n 3, 1) := by decide +kernel
theorem dX12_beansInAll_4 : decode cX12_beansInAll 4 = .ok (.iload_n 3, 1) := by decide +kernel
theorem dX12_beansInAll_5 : decode cX12_beansInAll 5 = .ok (.aload_n 0, 1) := by decide +kernel
theorem dX12_beansInAll_6 : decode cX12_beansInAll 6 = .ok (.getfield 41, 3) := by decide +kernel
theorem dX12_beansInAll_9 : decode cX12_beansInAll 9 = .ok (.getfield 259, 3) := by decide +kernel
theorem dX12_beansInAll_12 : decode cX12_beansInAll 12 = .ok (.if_icmp .ge 18, 3) := by decide +kernel
theorem dX12_beansInAll_15 : decode cX12_beansInAll 15 = .ok (.iload_n 2, 1) := by decide +kernel
theorem dX12_beansInAll_16 : decode cX12_beansInAll 16 = .ok (.aload_n 0, 1) := by decide +kernel
theorem dX12_beansInAll_17 : decode cX12_beansInAll 17 = .ok (.iload_n 3, 1) := by decide +kernel
theorem dX12_beansInAll_18 : decode cX12_beansInAll 18 = .ok (.iload_n 1, 1) := by decide +kernel
theorem dX12_beansInAll_19 : decode cX12_beansInAll 19 = .ok (.invokevirtual 315, 3) := by decide +kernel
theorem dX12_beansInAll_22 : decode cX12_beansInAll 22 = .ok (.iadd, 1) := by decide +kernel
theorem dX12_beansInAll_23 : decode cX12_beansInAll 23 = .ok (.istore_n 2, 1) := by decide +kernel
theorem dX12_beansInAll_24 : decode cX12_beansInAll 24 = .ok (.iinc 3 1, 3) := by decide +kernel
theorem dX12_beansInAll_27 : decode cX12_beansInAll 27 = .ok (.goto (-23), 3) := by decide +kernel
theorem dX12_beansInAll_30 : decode cX12_beansInAll 30 = .ok (.iload_n 2, 1) := by decide +kernel
theorem dX12_beansInAll_31 : decode cX12_beansInAll 31 = .ok (.ireturn, 1) := by decide +kernel
section T
variable {G : GT} {d : Nat} {S : List Value} {h : AH} {P : OC → AH → Prop} {x0 x1 x2 x3 x4 x5 x6 x7 x8 x9 x10 x11 x12 x13 x14 x15 : Option Value}
theorem tX12_beansInAll_0 (r : RQ G mX12_beansInAll d 1 [x0, x1, x2, x3] (.int (nI 0) :: S) (h) P) : RQ G mX12_beansInAll d 0 [x0, x1, x2, x3] (S) h P := q_iconst (M := mX12_beansInAll) (pc := 0) dX12_beansInAll_0 (by decide) r
theorem tX12_beansInAll_1 {v : Int32} (ho : ok1 x1 = true := by rfl) (r : RQ G mX12_beansInAll d 2 [x0, x1, some (.int v), x3] (S) (h) P) : RQ G mX12_beansInAll d 1 [x0, x1, x2, x3] (.int v :: S) h P := q_istore_n (M := mX12_beansInAll) (pc := 1) dX12_beansInAll_1 rfl (Nat.le_of_ble_eq_true rfl) ho r
theorem tX12_beansInAll_2 (r : RQ G mX12_beansInAll d 3 [x0, x1, x2, x3] (.int (nI 0) :: S) (h) P) : RQ G mX12_beansInAll d 2 [x0, x1, x2, x3] (S) h P := q_iconst (M := mX12_beansInAll) (pc := 2) dX12_beansInAll_2 (by decide) r
theorem tX12_beansInAll_3 {v : Int32} (ho : ok1 x2 = true := by rfl) (r : RQ G mX12_beansInAll d 4 [x0, x1, x2, some (.int v)] (S) (h) P) : RQ G mX12_beansInAll d 3 [x0, x1, x2, x3] (.int v :: S) h P := q_istore_n (M := mX12_beansInAll) (pc := 3) dX12_beansInAll_3 rfl (Nat.le_of_ble_eq_true rfl) ho r
theorem tX12_beansInAll_4 {v : Int32} (r : RQ G mX12_beansInAll d 5 [x0, x1, x2, some (.int v)] (.int v :: S) (h) P) : RQ G mX12_beansInAll d 4 [x0, x1, x2, some (.int v)] (S) h P := q_iload_n (M := mX12_beansInAll) (pc := 4) dX12_beansInAll_4 rfl rfl r
theorem tX12_beansInAll_5 {k : Nat} (r : RQ G mX12_beansInAll d 6 [some (.ref k), x1, x2, x3] (.ref k :: S) (h) P) : RQ G mX12_beansInAll d 5 [some (.ref k), x1, x2, x3] (S) h P := q_aload_n (M := mX12_beansInAll) (pc := 5) (r0 := some k) dX12_beansInAll_5 rfl rfl r
theorem tX12_beansInAll_6 {i : Nat} {vs : List Value} {v : Value} (ha : At h i (.inr (10, vs))) (hv : vs[17]? = some v) (r : RQ G mX12_beansInAll d 9 [x0, x1, x2, x3] (v :: S) (h) P) : RQ G mX12_beansInAll d 6 [x0, x1, x2, x3] (.ref i :: S) h P := q_get (M := mX12_beansInAll) (pc := 6) (kf := 17) dX12_beansInAll_6 (show CL[10]? = some (RX12, TX12, 25) from rfl) inA12 (by decide) rfl w1440 ha hv r
theorem tX12_beansInAll_9 {i : Nat} {vs : List Value} {v : Value} (ha : At h i (.inr (9, vs))) (hv : vs[1]? = some v) (r : RQ G mX12_beansInAll d 12 [x0, x1, x2, x3] (v :: S) (h) P) : RQ G mX12_beansInAll d 9 [x0, x1, x2, x3] (.ref i :: S) h P := q_getN (M := mX12_beansInAll) (pc := 9) (kf := 1) dX12_beansInAll_9 (show CL[9]? = some (RX11, TX11, 24) from rfl) inA11 (by decide) rfl v1322 ha hv r
theorem tX12_beansInAll_12 {x y : Int32} (kt : y ≤ x → RQ G mX12_beansInAll d 30 [x0, x1, x2, x3] S h P) (kf : ¬ y ≤ x → RQ G mX12_beansInAll d 15 [x0, x1, x2, x3] S h P) : RQ G mX12_beansInAll d 12 [x0, x1, x2, x3] (.int y :: .int x :: S) h P := q_icmp_ge (M := mX12_beansInAll) (pc := 12) dX12_beansInAll_12 (by decide) kt kf
theorem tX12_beansInAll_15 {v : Int32} (r : RQ G mX12_beansInAll d 16 [x0, x1, some (.int v), x3] (.int v :: S) (h) P) : RQ G mX12_beansInAll d 15 [x0, x1, some (.int v), x3] (S) h P := q_iload_n (M := mX12_beansInAll) (pc := 15) dX12_beansInAll_15 rfl rfl r
theorem tX12_beansInAll_16 {k : Nat} (r : RQ G mX12_beansInAll d 17 [some (.ref k), x1, x2, x3] (.ref k :: S) (h) P) : RQ G mX12_beansInAll d 16 [some (.ref k), x1, x2, x3] (S) h P := q_aload_n (M := mX12_beansInAll) (pc := 16) (r0 := some k) dX12_beansInAll_16 rfl rfl r
theorem tX12_beansInAll_17 {v : Int32} (r : RQ G mX12_beansInAll d 18 [x0, x1, x2, some (.int v)] (.int v :: S) (h) P) : RQ G mX12_beansInAll d 17 [x0, x1, x2, some (.int v)] (S) h P := q_iload_n (M := mX12_beansInAll) (pc := 17) dX12_beansInAll_17 rfl rfl r
theorem tX12_beansInAll_18 {v : Int32} (r : RQ G mX12_beansInAll d 19 [x0, some (.int v), x2, x3] (.int v :: S) (h) P) : RQ G mX12_beansInAll d 18 [x0, some (.int v), x2, x3] (S) h P := q_iload_n (M := mX12_beansInAll) (pc := 18) dX12_beansInAll_18 rfl rfl r
theorem tX12_beansInAll_19 {b d2 : Nat} {vs : List Value} {a0 : Int32} {a1 : Int32} {Q : Int32 → AH → Prop} (hd : d2 + 1 ≤ d) (ha : At h b (.inr (10, vs))) (call : RQ G mX12_held d2 0 [some (.ref b), some (.int a0), some (.int a1)] [] h (Ri Q)) (k : ∀ x h1, Q x h1 → RQ G mX12_beansInAll d 22 [x0, x1, x2, x3] (.int x :: S) h1 P) (hst : (S.map fun v => v.category).sum ≤ 8 := by exact Nat.le_of_ble_eq_true rfl)  : RQ G mX12_beansInAll d 19 [x0, x1, x2, x3] (.int a1 :: .int a0 :: .ref b :: S) h P := q_callV (M := mX12_beansInAll) (pc := 19) (M2 := mX12_held) (As := [.int a0, .int a1]) (n := 2) dX12_beansInAll_19 rfl ⟨by decide, by decide, by decide, rfl⟩ rfl w1716 w1718 w77 w120 w1719 (show CL[10]? = some (RX12, TX12, 25) from rfl) hd (by decide) (Nat.le_of_ble_eq_true rfl) rfl ha hst call (callk_i k)
theorem tX12_beansInAll_22 {x y : Int32} (r : RQ G mX12_beansInAll d 23 [x0, x1, x2, x3] (.int (x + y) :: S) (h) P) : RQ G mX12_beansInAll d 22 [x0, x1, x2, x3] (.int y :: .int x :: S) h P := q_iadd (M := mX12_beansInAll) (pc := 22) dX12_beansInAll_22 r
theorem tX12_beansInAll_23 {v : Int32} (ho : ok1 x1 = true := by rfl) (r : RQ G mX12_beansInAll d 24 [x0, x1, some (.int v), x3] (S) (h) P) : RQ G mX12_beansInAll d 23 [x0, x1, x2, x3] (.int v :: S) h P := q_istore_n (M := mX12_beansInAll) (pc := 23) dX12_beansInAll_23 rfl (Nat.le_of_ble_eq_true rfl) ho r
theorem tX12_beansInAll_24 {v : Int32} (ho : ok1 x2 = true := by rfl) (r : RQ G mX12_beansInAll d 27 [x0, x1, x2, some (.int (v + (nI 1)))] (S) (h) P) : RQ G mX12_beansInAll d 24 [x0, x1, x2, some (.int v)] (S) h P := q_iinc (M := mX12_beansInAll) (pc := 24) dX12_beansInAll_24 rfl (congrArg (v + ·) (show Int32.ofInt (1) = (nI 1) by decide)) (Nat.le_of_ble_eq_true rfl) ho r
theorem tX12_beansInAll_27 (r : RQ G mX12_beansInAll d 4 [x0, x1, x2, x3] S h P) : RQ G mX12_beansInAll d 27 [x0, x1, x2, x3] (S) h P := q_goto (M := mX12_beansInAll) (pc := 27) dX12_beansInAll_27 (by decide) r
theorem tX12_beansInAll_30 {v : Int32} (r : RQ G mX12_beansInAll d 31 [x0, x1, some (.int v), x3] (.int v :: S) (h) P) : RQ G mX12_beansInAll d 30 [x0, x1, some (.int v), x3] (S) h P := q_iload_n (M := mX12_beansInAll) (pc := 30) dX12_beansInAll_30 rfl rfl r
theorem tX12_beansInAll_31 {x : Int32} (hP : P (.inl (some (.int x))) h) : RQ G mX12_beansInAll d 31 [x0, x1, x2, x3] ([.int x]) h P := q_ireturn (M := mX12_beansInAll) (pc := 31) (ty := .int) dX12_beansInAll_31 rfl rfl hP
end T
theorem dX12_beansOf_0 : decode cX12_beansOf 0 = .ok (.aload_n 0, 1) := by decide +kernel
theorem dX12_beansOf_1 : decode cX12_beansOf 1 = .ok (.iconst 0, 1) := by decide +kernel
theorem dX12_beansOf_2 : decode cX12_beansOf 2 = .ok (.putfield 69, 3) := by decide +kernel
theorem dX12_beansOf_5 : decode cX12_beansOf 5 = .ok (.aload_n 0, 1) := by decide +kernel
theorem dX12_beansOf_6 : decode cX12_beansOf 6 = .ok (.iload_n 1, 1) := by decide +kernel
theorem dX12_beansOf_7 : decode cX12_beansOf 7 = .ok (.invokevirtual 385, 3) := by decide +kernel
theorem dX12_beansOf_10 : decode cX12_beansOf 10 = .ok (.ifCond .eq 11, 3) := by decide +kernel
theorem dX12_beansOf_13 : decode cX12_beansOf 13 = .ok (.aload_n 0, 1) := by decide +kernel
theorem dX12_beansOf_14 : decode cX12_beansOf 14 = .ok (.iload_n 1, 1) := by decide +kernel
theorem dX12_beansOf_15 : decode cX12_beansOf 15 = .ok (.invokevirtual 388, 3) := by decide +kernel
theorem dX12_beansOf_18 : decode cX12_beansOf 18 = .ok (.goto 8, 3) := by decide +kernel
theorem dX12_beansOf_21 : decode cX12_beansOf 21 = .ok (.aload_n 0, 1) := by decide +kernel
theorem dX12_beansOf_22 : decode cX12_beansOf 22 = .ok (.iconst 1, 1) := by decide +kernel
theorem dX12_beansOf_23 : decode cX12_beansOf 23 = .ok (.invokevirtual 296, 3) := by decide +kernel
theorem dX12_beansOf_26 : decode cX12_beansOf 26 = .ok (.ireturn, 1) := by decide +kernel
section T
variable {G : GT} {d : Nat} {S : List Value} {h : AH} {P : OC → AH → Prop} {x0 x1 x2 x3 x4 x5 x6 x7 x8 x9 x10 x11 x12 x13 x14 x15 : Option Value}
theorem tX12_beansOf_0 {k : Nat} (r : RQ G mX12_beansOf d 1 [some (.ref k), x1] (.ref k :: S) (h) P) : RQ G mX12_beansOf d 0 [some (.ref k), x1] (S) h P := q_aload_n (M := mX12_beansOf) (pc := 0) (r0 := some k) dX12_beansOf_0 rfl rfl r
theorem tX12_beansOf_1 (r : RQ G mX12_beansOf d 2 [x0, x1] (.int (nI 0) :: S) (h) P) : RQ G mX12_beansOf d 1 [x0, x1] (S) h P := q_iconst (M := mX12_beansOf) (pc := 1) dX12_beansOf_1 (by decide) r
theorem tX12_beansOf_2 {i : Nat} {vs : List Value} {v : Int32} (ha : At h i (.inr (10, vs))) (hlen : vs.length = 25) (r : RQ G mX12_beansOf d 5 [x0, x1] (S) (hset h i (.inr (10, vs.set 0 (.int v)))) P) : RQ G mX12_beansOf d 2 [x0, x1] (.int v :: .ref i :: S) h P := q_put (M := mX12_beansOf) (pc := 2) (kf := 0) (host := "") dX12_beansOf_2 (show CL[10]? = some (RX12, TX12, 25) from rfl) inA12 tyX12_ok nmX12 (by decide) rfl w1423 rfl (tyX12_ok 0 (by decide)) (nfit_int v) (by rw [hlen]; decide) ha r
theorem tX12_beansOf_5 {k : Nat} (r : RQ G mX12_beansOf d 6 [some (.ref k), x1] (.ref k :: S) (h) P) : RQ G mX12_beansOf d 5 [some (.ref k), x1] (S) h P := q_aload_n (M := mX12_beansOf) (pc := 5) (r0 := some k) dX12_beansOf_5 rfl rfl r
theorem tX12_beansOf_6 {v : Int32} (r : RQ G mX12_beansOf d 7 [x0, some (.int v)] (.int v :: S) (h) P) : RQ G mX12_beansOf d 6 [x0, some (.int v)] (S) h P := q_iload_n (M := mX12_beansOf) (pc := 6) dX12_beansOf_6 rfl rfl r
theorem tX12_beansOf_7 {b d2 : Nat} {vs : List Value} {a0 : Int32} {Q : Int32 → AH → Prop} (hd : d2 + 1 ≤ d) (ha : At h b (.inr (10, vs))) (call : RQ G mX12_isLabel d2 0 [some (.ref b), some (.int a0)] [] h (Ri Q)) (k : ∀ x h1, Q x h1 → RQ G mX12_beansOf d 10 [x0, x1] (.int x :: S) h1 P) (hst : (S.map fun v => v.category).sum ≤ 8 := by exact Nat.le_of_ble_eq_true rfl)  : RQ G mX12_beansOf d 7 [x0, x1] (.int a0 :: .ref b :: S) h P := q_callV (M := mX12_beansOf) (pc := 7) (M2 := mX12_isLabel) (As := [.int a0]) (n := 1) dX12_beansOf_7 rfl ⟨by decide, by decide, by decide, rfl⟩ rfl w1712 w1714 w76 w120 w1715 (show CL[10]? = some (RX12, TX12, 25) from rfl) hd (by decide) (Nat.le_of_ble_eq_true rfl) rfl ha hst call (callk_i k)
theorem tX12_beansOf_10 {x : Int32} (kt : x = 0 → RQ G mX12_beansOf d 21 [x0, x1] S h P) (kf : ¬ x = 0 → RQ G mX12_beansOf d 13 [x0, x1] S h P) : RQ G mX12_beansOf d 10 [x0, x1] (.int x :: S) h P := q_if_eq (M := mX12_beansOf) (pc := 10) dX12_beansOf_10 (by decide) kt kf
theorem tX12_beansOf_13 {k : Nat} (r : RQ G mX12_beansOf d 14 [some (.ref k), x1] (.ref k :: S) (h) P) : RQ G mX12_beansOf d 13 [some (.ref k), x1] (S) h P := q_aload_n (M := mX12_beansOf) (pc := 13) (r0 := some k) dX12_beansOf_13 rfl rfl r
theorem tX12_beansOf_14 {v : Int32} (r : RQ G mX12_beansOf d 15 [x0, some (.int v)] (.int v :: S) (h) P) : RQ G mX12_beansOf d 14 [x0, some (.int v)] (S) h P := q_iload_n (M := mX12_beansOf) (pc := 14) dX12_beansOf_14 rfl rfl r
theorem tX12_beansOf_15 {b d2 : Nat} {vs : List Value} {a0 : Int32} {Q : Int32 → AH → Prop} (hd : d2 + 1 ≤ d) (ha : At h b (.inr (10, vs))) (call : RQ G mX12_beansInAll d2 0 [some (.ref b), some (.int a0), none, none] [] h (Ri Q)) (k : ∀ x h1, Q x h1 → RQ G mX12_beansOf d 18 [x0, x1] (.int x :: S) h1 P) (hst : (S.map fun v => v.category).sum ≤ 8 := by exact Nat.le_of_ble_eq_true rfl)  : RQ G mX12_beansOf d 15 [x0, x1] (.int a0 :: .ref b :: S) h P := q_callV (M := mX12_beansOf) (pc := 15) (M2 := mX12_beansInAll) (As := [.int a0]) (n := 1) dX12_beansOf_15 rfl ⟨by decide, by decide, by decide, rfl⟩ rfl w1724 w1726 w78 w120 w1727 (show CL[10]? = some (RX12, TX12, 25) from rfl) hd (by decide) (Nat.le_of_ble_eq_true rfl) rfl ha hst call (callk_i k)
theorem tX12_beansOf_18 (r : RQ G mX12_beansOf d 26 [x0, x1] S h P) : RQ G mX12_beansOf d 18 [x0, x1] (S) h P := q_goto (M := mX12_beansOf) (pc := 18) dX12_beansOf_18 (by decide) r
theorem tX12_beansOf_21 {k : Nat} (r : RQ G mX12_beansOf d 22 [some (.ref k), x1] (.ref k :: S) (h) P) : RQ G mX12_beansOf d 21 [some (.ref k), x1] (S) h P := q_aload_n (M := mX12_beansOf) (pc := 21) (r0 := some k) dX12_beansOf_21 rfl rfl r
theorem tX12_beansOf_22 (r : RQ G mX12_beansOf d 23 [x0, x1] (.int (nI 1) :: S) (h) P) : RQ G mX12_beansOf d 22 [x0, x1] (S) h P := q_iconst (M := mX12_beansOf) (pc := 22) dX12_beansOf_22 (by decide) r
theorem tX12_beansOf_23 {b d2 : Nat} {vs : List Value} {a0 : Int32} {Q : Int32 → AH → Prop} (hd : d2 + 1 ≤ d) (ha : At h b (.inr (10, vs))) (call : RQ G mX12_no d2 0 [some (.ref b), some (.int a0)] [] h (Ri Q)) (k : ∀ x h1, Q x h1 → RQ G mX12_beansOf d 26 [x0, x1] (.int x :: S) h1 P) (hst : (S.map fun v => v.category).sum ≤ 8 := by exact Nat.le_of_ble_eq_true rfl)  : RQ G mX12_beansOf d 23 [x0, x1] (.int a0 :: .ref b :: S) h P := q_callV (M := mX12_beansOf) (pc := 23) (M2 := mX12_no) (As := [.int a0]) (n := 1) dX12_beansOf_23 rfl ⟨by decide, by decide, by decide, rfl⟩ rfl w1507 w1509 w41 w120 w1510 (show CL[10]? = some (RX12, TX12, 25) from rfl) hd (by decide) (Nat.le_of_ble_eq_true rfl) rfl ha hst call (callk_i k)
theorem tX12_beansOf_26 {x : Int32} (hP : P (.inl (some (.int x))) h) : RQ G mX12_beansOf d 26 [x0, x1] ([.int x]) h P := q_ireturn (M := mX12_beansOf) (pc := 26) (ty := .int) dX12_beansOf_26 rfl rfl hP
end T
theorem dX12_turnout_0 : decode cX12_turnout 0 = .ok (.aload_n 0, 1) := by decide +kernel
theorem dX12_turnout_1 : decode cX12_turnout 1 = .ok (.iconst 0, 1) := by decide +kernel
theorem dX12_turnout_2 : decode cX12_turnout 2 = .ok (.putfield 69, 3) := by decide +kernel
theorem dX12_turnout_5 : decode cX12_turnout 5 = .ok (.aload_n 0, 1) := by decide +kernel
theorem dX12_turnout_6 : decode cX12_turnout 6 = .ok (.iload_n 1, 1) := by decide +kernel
theorem dX12_turnout_7 : decode cX12_turnout 7 = .ok (.invokevirtual 382, 3) := by decide +kernel
theorem dX12_turnout_10 : decode cX12_turnout 10 = .ok (.ifCond .eq 11, 3) := by decide +kernel
theorem dX12_turnout_13 : decode cX12_turnout 13 = .ok (.aload_n 0, 1) := by decide +kernel
theorem dX12_turnout_14 : decode cX12_turnout 14 = .ok (.iload_n 1, 1) := by decide +kernel
theorem dX12_turnout_15 : decode cX12_turnout 15 = .ok (.invokevirtual 339, 3) := by decide +kernel
theorem dX12_turnout_18 : decode cX12_turnout 18 = .ok (.goto 8, 3) := by decide +kernel
theorem dX12_turnout_21 : decode cX12_turnout 21 = .ok (.aload_n 0, 1) := by decide +kernel
theorem dX12_turnout_22 : decode cX12_turnout 22 = .ok (.iconst 1, 1) := by decide +kernel
theorem dX12_turnout_23 : decode cX12_turnout 23 = .ok (.invokevirtual 296, 3) := by decide +kernel
theorem dX12_turnout_26 : decode cX12_turnout 26 = .ok (.ireturn, 1) := by decide +kernel
section T
variable {G : GT} {d : Nat} {S : List Value} {h : AH} {P : OC → AH → Prop} {x0 x1 x2 x3 x4 x5 x6 x7 x8 x9 x10 x11 x12 x13 x14 x15 : Option Value}
theorem tX12_turnout_0 {k : Nat} (r : RQ G mX12_turnout d 1 [some (.ref k), x1] (.ref k :: S) (h) P) : RQ G mX12_turnout d 0 [some (.ref k), x1] (S) h P := q_aload_n (M := mX12_turnout) (pc := 0) (r0 := some k) dX12_turnout_0 rfl rfl r
theorem tX12_turnout_1 (r : RQ G mX12_turnout d 2 [x0, x1] (.int (nI 0) :: S) (h) P) : RQ G mX12_turnout d 1 [x0, x1] (S) h P := q_iconst (M := mX12_turnout) (pc := 1) dX12_turnout_1 (by decide) r
theorem tX12_turnout_2 {i : Nat} {vs : List Value} {v : Int32} (ha : At h i (.inr (10, vs))) (hlen : vs.length = 25) (r : RQ G mX12_turnout d 5 [x0, x1] (S) (hset h i (.inr (10, vs.set 0 (.int v)))) P) : RQ G mX12_turnout d 2 [x0, x1] (.int v :: .ref i :: S) h P := q_put (M := mX12_turnout) (pc := 2) (kf := 0) (host := "") dX12_turnout_2 (show CL[10]? = some (RX12, TX12, 25) from rfl) inA12 tyX12_ok nmX12 (by decide) rfl w1423 rfl (tyX12_ok 0 (by decide)) (nfit_int v) (by rw [hlen]; decide) ha r
theorem tX12_turnout_5 {k : Nat} (r : RQ G mX12_turnout d 6 [some (.ref k), x1] (.ref k :: S) (h) P) : RQ G mX12_turnout d 5 [some (.ref k), x1] (S) h P := q_aload_n (M := mX12_turnout) (pc := 5) (r0 := some k) dX12_turnout_5 rfl rfl r
theorem tX12_turnout_6 {v : Int32} (r : RQ G mX12_turnout d 7 [x0, some (.int v)] (.int v :: S) (h) P) : RQ G mX12_turnout d 6 [x0, some (.int v)] (S) h P := q_iload_n (M := mX12_turnout) (pc := 6) dX12_turnout_6 rfl rfl r
theorem tX12_turnout_7 {b d2 : Nat} {vs : List Value} {a0 : Int32} {Q : Int32 → AH → Prop} (hd : d2 + 1 ≤ d) (ha : At h b (.inr (10, vs))) (call : RQ G mX12_isJar d2 0 [some (.ref b), some (.int a0)] [] h (Ri Q)) (k : ∀ x h1, Q x h1 → RQ G mX12_turnout d 10 [x0, x1] (.int x :: S) h1 P) (hst : (S.map fun v => v.category).sum ≤ 8 := by exact Nat.le_of_ble_eq_true rfl)  : RQ G mX12_turnout d 7 [x0, x1] (.int a0 :: .ref b :: S) h P := q_callV (M := mX12_turnout) (pc := 7) (M2 := mX12_isJar) (As := [.int a0]) (n := 1) dX12_turnout_7 rfl ⟨by decide, by decide, by decide, rfl⟩ rfl w1708 w1710 w75 w120 w1711 (show CL[10]? = some (RX12, TX12, 25) from rfl) hd (by decide) (Nat.le_of_ble_eq_true rfl) rfl ha hst call (callk_i k)
theorem tX12_turnout_10 {x : Int32} (kt : x = 0 → RQ G mX12_turnout d 21 [x0, x1] S h P) (kf : ¬ x = 0 → RQ G mX12_turnout d 13 [x0, x1] S h P) : RQ G mX12_turnout d 10 [x0, x1] (.int x :: S) h P := q_if_eq (M := mX12_turnout) (pc := 10) dX12_turnout_10 (by decide) kt kf
theorem tX12_turnout_13 {k : Nat} (r : RQ G mX12_turnout d 14 [some (.ref k), x1] (.ref k :: S) (h) P) : RQ G mX12_turnout d 13 [some (.ref k), x1] (S) h P := q_aload_n (M := mX12_turnout) (pc := 13) (r0 := some k) dX12_turnout_13 rfl rfl r
theorem tX12_turnout_14 {v : Int32} (r : RQ G mX12_turnout d 15 [x0, some (.int v)] (.int v :: S) (h) P) : RQ G mX12_turnout d 14 [x0, some (.int v)] (S) h P := q_iload_n (M := mX12_turnout) (pc := 14) dX12_turnout_14 rfl rfl r
theorem tX12_turnout_15 {b d2 : Nat} {vs : List Value} {a0 : Int32} {Q : Int32 → AH → Prop} (hd : d2 + 1 ≤ d) (ha : At h b (.inr (10, vs))) (call : RQ G mX12_all d2 0 [some (.ref b), some (.int a0), none, none] [] h (Ri Q)) (k : ∀ x h1, Q x h1 → RQ G mX12_turnout d 18 [x0, x1] (.int x :: S) h1 P) (hst : (S.map fun v => v.category).sum ≤ 8 := by exact Nat.le_of_ble_eq_true rfl)  : RQ G mX12_turnout d 15 [x0, x1] (.int a0 :: .ref b :: S) h P := q_callV (M := mX12_turnout) (pc := 15) (M2 := mX12_all) (As := [.int a0]) (n := 1) dX12_turnout_15 rfl ⟨by decide, by decide, by decide, rfl⟩ rfl w1732 w1734 w79 w120 w1735 (show CL[10]? = some (RX12, TX12, 25) from rfl) hd (by decide) (Nat.le_of_ble_eq_true rfl) rfl ha hst call (callk_i k)
theorem tX12_turnout_18 (r : RQ G mX12_turnout d 26 [x0, x1] S h P) : RQ G mX12_turnout d 18 [x0, x1] (S) h P := q_goto (M := mX12_turnout) (pc := 18) dX12_turnout_18 (by decide) r
theorem tX12_turnout_21 {k : Nat} (r : RQ G mX12_turnout d 22 [some (.ref k), x1] (.ref k :: S) (h) P) : RQ G mX12_turnout d 21 [some (.ref k), x1] (S) h P := q_aload_n (M := mX12_turnout) (pc := 21) (r0 := some k) dX12_turnout_21 rfl rfl r
theorem tX12_turnout_22 (r : RQ G mX12_turnout d 23 [x0, x1] (.int (nI 1) :: S) (h) P) : RQ G mX12_turnout d 22 [x0, x1] (S) h P := q_iconst (M := mX12_turnout) (pc := 22) dX12_turnout_22 (by decide) r
theorem tX12_turnout_23 {b d2 : Nat} {vs : List Value} {a0 : Int32} {Q : Int32 → AH → Prop} (hd : d2 + 1 ≤ d) (ha : At h b (.inr (10, vs))) (call : RQ G mX12_no d2 0 [some (.ref b), some (.int a0)] [] h (Ri Q)) (k : ∀ x h1, Q x h1 → RQ G mX12_turnout d 26 [x0, x1] (.int x :: S) h1 P) (hst : (S.map fun v => v.category).sum ≤ 8 := by exact Nat.le_of_ble_eq_true rfl)  : RQ G mX12_turnout d 23 [x0, x1] (.int a0 :: .ref b :: S) h P := q_callV (M := mX12_turnout) (pc := 23) (M2 := mX12_no) (As := [.int a0]) (n := 1) dX12_turnout_23 rfl ⟨by decide, by decide, by decide, rfl⟩ rfl w1507 w1509 w41 w120 w1510 (show CL[10]? = some (RX12, TX12, 25) from rfl) hd (by decide) (Nat.le_of_ble_eq_true rfl) rfl ha hst call (callk_i k)
theorem tX12_turnout_26 {x : Int32} (hP : P (.inl (some (.int x))) h) : RQ G mX12_turnout d 26 [x0, x1] ([.int x]) h P := q_ireturn (M := mX12_turnout) (pc := 26) (ty := .int) dX12_turnout_26 rfl rfl hP
end T
