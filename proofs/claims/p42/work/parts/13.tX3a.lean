theorem dX3_init_0 : decode cX3_init 0 = .ok (.aload_n 0, 1) := by decide +kernel
theorem dX3_init_1 : decode cX3_init 1 = .ok (.invokespecial 3, 3) := by decide +kernel
theorem dX3_init_4 : decode cX3_init 4 = .ok (.aload_n 0, 1) := by decide +kernel
theorem dX3_init_5 : decode cX3_init 5 = .ok (.bipush 8, 2) := by decide +kernel
theorem dX3_init_7 : decode cX3_init 7 = .ok (.anewarray 9, 3) := by decide +kernel
theorem dX3_init_10 : decode cX3_init 10 = .ok (.putfield 11, 3) := by decide +kernel
theorem dX3_init_13 : decode cX3_init 13 = .ok (.aload_n 0, 1) := by decide +kernel
theorem dX3_init_14 : decode cX3_init 14 = .ok (.bipush 6, 2) := by decide +kernel
theorem dX3_init_16 : decode cX3_init 16 = .ok (.newarray .int, 2) := by decide +kernel
theorem dX3_init_18 : decode cX3_init 18 = .ok (.putfield 17, 3) := by decide +kernel
theorem dX3_init_21 : decode cX3_init 21 = .ok (.aload_n 0, 1) := by decide +kernel
theorem dX3_init_22 : decode cX3_init 22 = .ok (.bipush 6, 2) := by decide +kernel
theorem dX3_init_24 : decode cX3_init 24 = .ok (.newarray .int, 2) := by decide +kernel
theorem dX3_init_26 : decode cX3_init 26 = .ok (.putfield 21, 3) := by decide +kernel
theorem dX3_init_29 : decode cX3_init 29 = .ok (.aload_n 0, 1) := by decide +kernel
theorem dX3_init_30 : decode cX3_init 30 = .ok (.bipush 6, 2) := by decide +kernel
theorem dX3_init_32 : decode cX3_init 32 = .ok (.newarray .int, 2) := by decide +kernel
theorem dX3_init_34 : decode cX3_init 34 = .ok (.putfield 24, 3) := by decide +kernel
theorem dX3_init_37 : decode cX3_init 37 = .ok (.iconst 0, 1) := by decide +kernel
theorem dX3_init_38 : decode cX3_init 38 = .ok (.istore_n 1, 1) := by decide +kernel
theorem dX3_init_39 : decode cX3_init 39 = .ok (.iload_n 1, 1) := by decide +kernel
theorem dX3_init_40 : decode cX3_init 40 = .ok (.bipush 8, 2) := by decide +kernel
theorem dX3_init_42 : decode cX3_init 42 = .ok (.if_icmp .ge 22, 3) := by decide +kernel
theorem dX3_init_45 : decode cX3_init 45 = .ok (.aload_n 0, 1) := by decide +kernel
theorem dX3_init_46 : decode cX3_init 46 = .ok (.getfield 11, 3) := by decide +kernel
theorem dX3_init_49 : decode cX3_init 49 = .ok (.iload_n 1, 1) := by decide +kernel
theorem dX3_init_50 : decode cX3_init 50 = .ok (.new 9, 3) := by decide +kernel
theorem dX3_init_53 : decode cX3_init 53 = .ok (.dup, 1) := by decide +kernel
theorem dX3_init_54 : decode cX3_init 54 = .ok (.invokespecial 27, 3) := by decide +kernel
theorem dX3_init_57 : decode cX3_init 57 = .ok (.aastore, 1) := by decide +kernel
theorem dX3_init_58 : decode cX3_init 58 = .ok (.iinc 1 1, 3) := by decide +kernel
theorem dX3_init_61 : decode cX3_init 61 = .ok (.goto (-22), 3) := by decide +kernel
theorem dX3_init_64 : decode cX3_init 64 = .ok (.iconst 0, 1) := by decide +kernel
theorem dX3_init_65 : decode cX3_init 65 = .ok (.istore_n 1, 1) := by decide +kernel
theorem dX3_init_66 : decode cX3_init 66 = .ok (.iload_n 1, 1) := by decide +kernel
theorem dX3_init_67 : decode cX3_init 67 = .ok (.bipush 6, 2) := by decide +kernel
theorem dX3_init_69 : decode cX3_init 69 = .ok (.if_icmp .ge 23, 3) := by decide +kernel
theorem dX3_init_72 : decode cX3_init 72 = .ok (.aload_n 0, 1) := by decide +kernel
theorem dX3_init_73 : decode cX3_init 73 = .ok (.getfield 21, 3) := by decide +kernel
theorem dX3_init_76 : decode cX3_init 76 = .ok (.iload_n 1, 1) := by decide +kernel
theorem dX3_init_77 : decode cX3_init 77 = .ok (.iconst (-1), 1) := by decide +kernel
theorem dX3_init_78 : decode cX3_init 78 = .ok (.iastore, 1) := by decide +kernel
theorem dX3_init_79 : decode cX3_init 79 = .ok (.aload_n 0, 1) := by decide +kernel
theorem dX3_init_80 : decode cX3_init 80 = .ok (.getfield 24, 3) := by decide +kernel
theorem dX3_init_83 : decode cX3_init 83 = .ok (.iload_n 1, 1) := by decide +kernel
theorem dX3_init_84 : decode cX3_init 84 = .ok (.iload_n 1, 1) := by decide +kernel
theorem dX3_init_85 : decode cX3_init 85 = .ok (.iastore, 1) := by decide +kernel
theorem dX3_init_86 : decode cX3_init 86 = .ok (.iinc 1 1, 3) := by decide +kernel
theorem dX3_init_89 : decode cX3_init 89 = .ok (.goto (-23), 3) := by decide +kernel
theorem dX3_init_92 : decode cX3_init 92 = .ok (.return_, 1) := by decide +kernel
section T
variable {G : GT} {d : Nat} {S : List Value} {h : AH} {P : OC → AH → Prop} {x0 x1 x2 x3 x4 x5 x6 x7 x8 x9 x10 x11 x12 x13 x14 x15 : Option Value}
theorem tX3_init_0 {k : Nat} (r : RQ G mX3_init d 1 [some (.ref k), x1] (.ref k :: S) (h) P) : RQ G mX3_init d 0 [some (.ref k), x1] (S) h P := q_aload_n (M := mX3_init) (pc := 0) (r0 := some k) dX3_init_0 rfl rfl r
theorem tX3_init_1 {b : Nat} (hd : 1 ≤ d) (hst : (S.map fun v => v.category).sum ≤ 8 := by exact Nat.le_of_ble_eq_true rfl) (r : RQ G mX3_init d 4 [x0, x1] (S) (h) P) : RQ G mX3_init d 1 [x0, x1] (.ref b :: S) h P := q_objInit (M := mX3_init) (pc := 1) dX3_init_1 w141 w83 w84 hd hst r
theorem tX3_init_4 {k : Nat} (r : RQ G mX3_init d 5 [some (.ref k), x1] (.ref k :: S) (h) P) : RQ G mX3_init d 4 [some (.ref k), x1] (S) h P := q_aload_n (M := mX3_init) (pc := 4) (r0 := some k) dX3_init_4 rfl rfl r
theorem tX3_init_5 (r : RQ G mX3_init d 7 [x0, x1] (.int (nI 8) :: S) (h) P) : RQ G mX3_init d 5 [x0, x1] (S) h P := q_bipush (M := mX3_init) (pc := 5) dX3_init_5 (by decide) r
theorem tX3_init_7 {n : Nat} {x : Int32} (hx : x = nI n) (hn : n < 60000000) (r : RQ G mX3_init d 10 [x0, x1] (.ref h.1 :: S) (hnew h n (.inl (3, n, .inr (.inr (.inr (.inr (fun _ => none))))))) P) : RQ G mX3_init d 7 [x0, x1] (.int x :: S) h P := q_anew3 (M := mX3_init) (pc := 7) dX3_init_7 w142 hx hn r
theorem tX3_init_10 {i : Nat} {vs : List Value} {v : Nat} (ha : At h i (.inr (2, vs))) (hlen : vs.length = 5) (r : RQ G mX3_init d 13 [x0, x1] (S) (hset h i (.inr (2, vs.set 0 (.ref v)))) P) : RQ G mX3_init d 10 [x0, x1] (.ref v :: .ref i :: S) h P := q_putF (M := mX3_init) (pc := 10) (kf := 0) (host := "") dX3_init_10 (show CL[2]? = some (RX3, TX3, 5) from rfl) inA3 tyX3_ok nmX3 (by decide) rfl w199 rfl rfl rfl (tyX3_ok 0 (by decide)) (nfit_arr _ v) (by rw [hlen]; decide) ha r
theorem tX3_init_13 {k : Nat} (r : RQ G mX3_init d 14 [some (.ref k), x1] (.ref k :: S) (h) P) : RQ G mX3_init d 13 [some (.ref k), x1] (S) h P := q_aload_n (M := mX3_init) (pc := 13) (r0 := some k) dX3_init_13 rfl rfl r
theorem tX3_init_14 (r : RQ G mX3_init d 16 [x0, x1] (.int (nI 6) :: S) (h) P) : RQ G mX3_init d 14 [x0, x1] (S) h P := q_bipush (M := mX3_init) (pc := 14) dX3_init_14 (by decide) r
theorem tX3_init_16 {n : Nat} {x : Int32} (hx : x = nI n) (hn : n < 60000000) (r : RQ G mX3_init d 18 [x0, x1] (.ref h.1 :: S) (hnew h n (.inl (0, n, .inl (fun _ => 0)))) P) : RQ G mX3_init d 16 [x0, x1] (.int x :: S) h P := q_newaI (M := mX3_init) (pc := 16) dX3_init_16 w128 hx hn r
theorem tX3_init_18 {i : Nat} {vs : List Value} {v : Nat} (ha : At h i (.inr (2, vs))) (hlen : vs.length = 5) (r : RQ G mX3_init d 21 [x0, x1] (S) (hset h i (.inr (2, vs.set 1 (.ref v)))) P) : RQ G mX3_init d 18 [x0, x1] (.ref v :: .ref i :: S) h P := q_putF (M := mX3_init) (pc := 18) (kf := 1) (host := "") dX3_init_18 (show CL[2]? = some (RX3, TX3, 5) from rfl) inA3 tyX3_ok nmX3 (by decide) rfl w203 rfl rfl rfl (tyX3_ok 1 (by decide)) (nfit_arr _ v) (by rw [hlen]; decide) ha r
theorem tX3_init_21 {k : Nat} (r : RQ G mX3_init d 22 [some (.ref k), x1] (.ref k :: S) (h) P) : RQ G mX3_init d 21 [some (.ref k), x1] (S) h P := q_aload_n (M := mX3_init) (pc := 21) (r0 := some k) dX3_init_21 rfl rfl r
theorem tX3_init_22 (r : RQ G mX3_init d 24 [x0, x1] (.int (nI 6) :: S) (h) P) : RQ G mX3_init d 22 [x0, x1] (S) h P := q_bipush (M := mX3_init) (pc := 22) dX3_init_22 (by decide) r
theorem tX3_init_24 {n : Nat} {x : Int32} (hx : x = nI n) (hn : n < 60000000) (r : RQ G mX3_init d 26 [x0, x1] (.ref h.1 :: S) (hnew h n (.inl (0, n, .inl (fun _ => 0)))) P) : RQ G mX3_init d 24 [x0, x1] (.int x :: S) h P := q_newaI (M := mX3_init) (pc := 24) dX3_init_24 w128 hx hn r
theorem tX3_init_26 {i : Nat} {vs : List Value} {v : Nat} (ha : At h i (.inr (2, vs))) (hlen : vs.length = 5) (r : RQ G mX3_init d 29 [x0, x1] (S) (hset h i (.inr (2, vs.set 2 (.ref v)))) P) : RQ G mX3_init d 26 [x0, x1] (.ref v :: .ref i :: S) h P := q_putF (M := mX3_init) (pc := 26) (kf := 2) (host := "") dX3_init_26 (show CL[2]? = some (RX3, TX3, 5) from rfl) inA3 tyX3_ok nmX3 (by decide) rfl w207 rfl rfl rfl (tyX3_ok 2 (by decide)) (nfit_arr _ v) (by rw [hlen]; decide) ha r
theorem tX3_init_29 {k : Nat} (r : RQ G mX3_init d 30 [some (.ref k), x1] (.ref k :: S) (h) P) : RQ G mX3_init d 29 [some (.ref k), x1] (S) h P := q_aload_n (M := mX3_init) (pc := 29) (r0 := some k) dX3_init_29 rfl rfl r
theorem tX3_init_30 (r : RQ G mX3_init d 32 [x0, x1] (.int (nI 6) :: S) (h) P) : RQ G mX3_init d 30 [x0, x1] (S) h P := q_bipush (M := mX3_init) (pc := 30) dX3_init_30 (by decide) r
theorem tX3_init_32 {n : Nat} {x : Int32} (hx : x = nI n) (hn : n < 60000000) (r : RQ G mX3_init d 34 [x0, x1] (.ref h.1 :: S) (hnew h n (.inl (0, n, .inl (fun _ => 0)))) P) : RQ G mX3_init d 32 [x0, x1] (.int x :: S) h P := q_newaI (M := mX3_init) (pc := 32) dX3_init_32 w128 hx hn r
theorem tX3_init_34 {i : Nat} {vs : List Value} {v : Nat} (ha : At h i (.inr (2, vs))) (hlen : vs.length = 5) (r : RQ G mX3_init d 37 [x0, x1] (S) (hset h i (.inr (2, vs.set 3 (.ref v)))) P) : RQ G mX3_init d 34 [x0, x1] (.ref v :: .ref i :: S) h P := q_putF (M := mX3_init) (pc := 34) (kf := 3) (host := "") dX3_init_34 (show CL[2]? = some (RX3, TX3, 5) from rfl) inA3 tyX3_ok nmX3 (by decide) rfl w209 rfl rfl rfl (tyX3_ok 3 (by decide)) (nfit_arr _ v) (by rw [hlen]; decide) ha r
theorem tX3_init_37 (r : RQ G mX3_init d 38 [x0, x1] (.int (nI 0) :: S) (h) P) : RQ G mX3_init d 37 [x0, x1] (S) h P := q_iconst (M := mX3_init) (pc := 37) dX3_init_37 (by decide) r
theorem tX3_init_38 {v : Int32} (ho : ok1 x0 = true := by rfl) (r : RQ G mX3_init d 39 [x0, some (.int v)] (S) (h) P) : RQ G mX3_init d 38 [x0, x1] (.int v :: S) h P := q_istore_n (M := mX3_init) (pc := 38) dX3_init_38 rfl (Nat.le_of_ble_eq_true rfl) ho r
theorem tX3_init_39 {v : Int32} (r : RQ G mX3_init d 40 [x0, some (.int v)] (.int v :: S) (h) P) : RQ G mX3_init d 39 [x0, some (.int v)] (S) h P := q_iload_n (M := mX3_init) (pc := 39) dX3_init_39 rfl rfl r
theorem tX3_init_40 (r : RQ G mX3_init d 42 [x0, x1] (.int (nI 8) :: S) (h) P) : RQ G mX3_init d 40 [x0, x1] (S) h P := q_bipush (M := mX3_init) (pc := 40) dX3_init_40 (by decide) r
theorem tX3_init_42 {x y : Int32} (kt : y ≤ x → RQ G mX3_init d 64 [x0, x1] S h P) (kf : ¬ y ≤ x → RQ G mX3_init d 45 [x0, x1] S h P) : RQ G mX3_init d 42 [x0, x1] (.int y :: .int x :: S) h P := q_icmp_ge (M := mX3_init) (pc := 42) dX3_init_42 (by decide) kt kf
theorem tX3_init_45 {k : Nat} (r : RQ G mX3_init d 46 [some (.ref k), x1] (.ref k :: S) (h) P) : RQ G mX3_init d 45 [some (.ref k), x1] (S) h P := q_aload_n (M := mX3_init) (pc := 45) (r0 := some k) dX3_init_45 rfl rfl r
theorem tX3_init_46 {i : Nat} {vs : List Value} {v : Value} (ha : At h i (.inr (2, vs))) (hv : vs[0]? = some v) (r : RQ G mX3_init d 49 [x0, x1] (v :: S) (h) P) : RQ G mX3_init d 46 [x0, x1] (.ref i :: S) h P := q_get (M := mX3_init) (pc := 46) (kf := 0) dX3_init_46 (show CL[2]? = some (RX3, TX3, 5) from rfl) inA3 (by decide) rfl w199 ha hv r
theorem tX3_init_49 {v : Int32} (r : RQ G mX3_init d 50 [x0, some (.int v)] (.int v :: S) (h) P) : RQ G mX3_init d 49 [x0, some (.int v)] (S) h P := q_iload_n (M := mX3_init) (pc := 49) dX3_init_49 rfl rfl r
theorem tX3_init_50 (r : RQ G mX3_init d 53 [x0, x1] (.ref h.1 :: S) (hnew h 10 (.inr (3, [.null, .null, .null, .null, .int 0, .null, .int 0, .int 0, .int 0, .int 0]))) P) : RQ G mX3_init d 50 [x0, x1] (S) h P := q_new (M := mX3_init) (pc := 50) dX3_init_50 (show CL[3]? = some (RX4, TX4, 10) from rfl) inA4 tyX4_ok w142 w144 w47 dfX4 dnX4 r
theorem tX3_init_53 {v : Value} (hv : ok1 (some v) = true := by rfl) (r : RQ G mX3_init d 54 [x0, x1] (v :: v :: S) (h) P) : RQ G mX3_init d 53 [x0, x1] (v :: S) h P := q_dup (M := mX3_init) (pc := 53) dX3_init_53 hv r
theorem tX3_init_54 {b d2 : Nat}  {Q : AH → Prop} (hd : d2 + 1 ≤ d) (call : RQ G mX4_init d2 0 [some (.ref b)] [] h (Rv Q)) (k : ∀ h1, Q h1 → RQ G mX3_init d 57 [x0, x1] S h1 P) (hst : (S.map fun v => v.category).sum ≤ 8 := by exact Nat.le_of_ble_eq_true rfl)  : RQ G mX3_init d 54 [x0, x1] (.ref b :: S) h P := q_callIN (M := mX3_init) (pc := 54) (M2 := mX4_init) (As := []) (n := 0) dX3_init_54 ⟨by decide, by decide, by decide, rfl⟩ rfl rfl rfl v145 w146 w47 w147 hd (by decide) (Nat.le_of_ble_eq_true rfl) rfl hst call (callk_v k)
theorem tX3_init_57 {a n j b : Nat} {x : Int32} {vs : List Value} {f : Nat → Option Nat} (ha : At h a (.inl (3, n, .inr (.inr (.inr (.inr f)))))) (hb : At h b (.inr (3, vs))) (hx : x = nI j) (hj : j < n) (hn : n < 2147483648) (r : RQ G mX3_init d 58 [x0, x1] (S) (hset h a (.inl (3, n, .inr (.inr (.inr (.inr (va_up f j (some b)))))))) P) : RQ G mX3_init d 57 [x0, x1] (.ref b :: .int x :: .ref a :: S) h P := q_aast3 (M := mX3_init) (pc := 57) dX3_init_57 ha hb hx hj hn r
theorem tX3_init_58 {v : Int32} (ho : ok1 x0 = true := by rfl) (r : RQ G mX3_init d 61 [x0, some (.int (v + (nI 1)))] (S) (h) P) : RQ G mX3_init d 58 [x0, some (.int v)] (S) h P := q_iinc (M := mX3_init) (pc := 58) dX3_init_58 rfl (congrArg (v + ·) (show Int32.ofInt (1) = (nI 1) by decide)) (Nat.le_of_ble_eq_true rfl) ho r
theorem tX3_init_61 (r : RQ G mX3_init d 39 [x0, x1] S h P) : RQ G mX3_init d 61 [x0, x1] (S) h P := q_goto (M := mX3_init) (pc := 61) dX3_init_61 (by decide) r
theorem tX3_init_64 (r : RQ G mX3_init d 65 [x0, x1] (.int (nI 0) :: S) (h) P) : RQ G mX3_init d 64 [x0, x1] (S) h P := q_iconst (M := mX3_init) (pc := 64) dX3_init_64 (by decide) r
theorem tX3_init_65 {v : Int32} (ho : ok1 x0 = true := by rfl) (r : RQ G mX3_init d 66 [x0, some (.int v)] (S) (h) P) : RQ G mX3_init d 65 [x0, x1] (.int v :: S) h P := q_istore_n (M := mX3_init) (pc := 65) dX3_init_65 rfl (Nat.le_of_ble_eq_true rfl) ho r
theorem tX3_init_66 {v : Int32} (r : RQ G mX3_init d 67 [x0, some (.int v)] (.int v :: S) (h) P) : RQ G mX3_init d 66 [x0, some (.int v)] (S) h P := q_iload_n (M := mX3_init) (pc := 66) dX3_init_66 rfl rfl r
theorem tX3_init_67 (r : RQ G mX3_init d 69 [x0, x1] (.int (nI 6) :: S) (h) P) : RQ G mX3_init d 67 [x0, x1] (S) h P := q_bipush (M := mX3_init) (pc := 67) dX3_init_67 (by decide) r
theorem tX3_init_69 {x y : Int32} (kt : y ≤ x → RQ G mX3_init d 92 [x0, x1] S h P) (kf : ¬ y ≤ x → RQ G mX3_init d 72 [x0, x1] S h P) : RQ G mX3_init d 69 [x0, x1] (.int y :: .int x :: S) h P := q_icmp_ge (M := mX3_init) (pc := 69) dX3_init_69 (by decide) kt kf
theorem tX3_init_72 {k : Nat} (r : RQ G mX3_init d 73 [some (.ref k), x1] (.ref k :: S) (h) P) : RQ G mX3_init d 72 [some (.ref k), x1] (S) h P := q_aload_n (M := mX3_init) (pc := 72) (r0 := some k) dX3_init_72 rfl rfl r
theorem tX3_init_73 {i : Nat} {vs : List Value} {v : Value} (ha : At h i (.inr (2, vs))) (hv : vs[2]? = some v) (r : RQ G mX3_init d 76 [x0, x1] (v :: S) (h) P) : RQ G mX3_init d 73 [x0, x1] (.ref i :: S) h P := q_get (M := mX3_init) (pc := 73) (kf := 2) dX3_init_73 (show CL[2]? = some (RX3, TX3, 5) from rfl) inA3 (by decide) rfl w207 ha hv r
theorem tX3_init_76 {v : Int32} (r : RQ G mX3_init d 77 [x0, some (.int v)] (.int v :: S) (h) P) : RQ G mX3_init d 76 [x0, some (.int v)] (S) h P := q_iload_n (M := mX3_init) (pc := 76) dX3_init_76 rfl rfl r
theorem tX3_init_77 (r : RQ G mX3_init d 78 [x0, x1] (.int (-1) :: S) (h) P) : RQ G mX3_init d 77 [x0, x1] (S) h P := q_iconst (M := mX3_init) (pc := 77) dX3_init_77 (by decide) r
theorem tX3_init_78 {a n j : Nat} {x : Int32} {v : Int32} {f : Nat → Int32} (ha : At h a (.inl (0, n, .inl f))) (hx : x = nI j) (hj : j < n) (hn : n < 2147483648) (r : RQ G mX3_init d 79 [x0, x1] (S) (hset h a (.inl (0, n, .inl (upd f j v)))) P) : RQ G mX3_init d 78 [x0, x1] (.int v :: .int x :: .ref a :: S) h P := q_iast (M := mX3_init) (pc := 78) dX3_init_78 ha hx hj hn r
theorem tX3_init_79 {k : Nat} (r : RQ G mX3_init d 80 [some (.ref k), x1] (.ref k :: S) (h) P) : RQ G mX3_init d 79 [some (.ref k), x1] (S) h P := q_aload_n (M := mX3_init) (pc := 79) (r0 := some k) dX3_init_79 rfl rfl r
theorem tX3_init_80 {i : Nat} {vs : List Value} {v : Value} (ha : At h i (.inr (2, vs))) (hv : vs[3]? = some v) (r : RQ G mX3_init d 83 [x0, x1] (v :: S) (h) P) : RQ G mX3_init d 80 [x0, x1] (.ref i :: S) h P := q_get (M := mX3_init) (pc := 80) (kf := 3) dX3_init_80 (show CL[2]? = some (RX3, TX3, 5) from rfl) inA3 (by decide) rfl w209 ha hv r
theorem tX3_init_83 {v : Int32} (r : RQ G mX3_init d 84 [x0, some (.int v)] (.int v :: S) (h) P) : RQ G mX3_init d 83 [x0, some (.int v)] (S) h P := q_iload_n (M := mX3_init) (pc := 83) dX3_init_83 rfl rfl r
theorem tX3_init_84 {v : Int32} (r : RQ G mX3_init d 85 [x0, some (.int v)] (.int v :: S) (h) P) : RQ G mX3_init d 84 [x0, some (.int v)] (S) h P := q_iload_n (M := mX3_init) (pc := 84) dX3_init_84 rfl rfl r
theorem tX3_init_85 {a n j : Nat} {x : Int32} {v : Int32} {f : Nat → Int32} (ha : At h a (.inl (0, n, .inl f))) (hx : x = nI j) (hj : j < n) (hn : n < 2147483648) (r : RQ G mX3_init d 86 [x0, x1] (S) (hset h a (.inl (0, n, .inl (upd f j v)))) P) : RQ G mX3_init d 85 [x0, x1] (.int v :: .int x :: .ref a :: S) h P := q_iast (M := mX3_init) (pc := 85) dX3_init_85 ha hx hj hn r
theorem tX3_init_86 {v : Int32} (ho : ok1 x0 = true := by rfl) (r : RQ G mX3_init d 89 [x0, some (.int (v + (nI 1)))] (S) (h) P) : RQ G mX3_init d 86 [x0, some (.int v)] (S) h P := q_iinc (M := mX3_init) (pc := 86) dX3_init_86 rfl (congrArg (v + ·) (show Int32.ofInt (1) = (nI 1) by decide)) (Nat.le_of_ble_eq_true rfl) ho r
theorem tX3_init_89 (r : RQ G mX3_init d 66 [x0, x1] S h P) : RQ G mX3_init d 89 [x0, x1] (S) h P := q_goto (M := mX3_init) (pc := 89) dX3_init_89 (by decide) r
theorem tX3_init_92 (hP : P (.inl none) h) : RQ G mX3_init d 92 [x0, x1] ([]) h P := q_return (M := mX3_init) (pc := 92) dX3_init_92 rfl hP
end T
theorem dX3_empty_0 : decode cX3_empty 0 = .ok (.iconst 0, 1) := by decide +kernel
theorem dX3_empty_1 : decode cX3_empty 1 = .ok (.istore_n 1, 1) := by decide +kernel
theorem dX3_empty_2 : decode cX3_empty 2 = .ok (.iload_n 1, 1) := by decide +kernel
theorem dX3_empty_3 : decode cX3_empty 3 = .ok (.bipush 8, 2) := by decide +kernel
theorem dX3_empty_5 : decode cX3_empty 5 = .ok (.if_icmp .ge 18, 3) := by decide +kernel
theorem dX3_empty_8 : decode cX3_empty 8 = .ok (.aload_n 0, 1) := by decide +kernel
theorem dX3_empty_9 : decode cX3_empty 9 = .ok (.getfield 11, 3) := by decide +kernel
theorem dX3_empty_12 : decode cX3_empty 12 = .ok (.iload_n 1, 1) := by decide +kernel
theorem dX3_empty_13 : decode cX3_empty 13 = .ok (.aaload, 1) := by decide +kernel
theorem dX3_empty_14 : decode cX3_empty 14 = .ok (.invokevirtual 28, 3) := by decide +kernel
theorem dX3_empty_17 : decode cX3_empty 17 = .ok (.iinc 1 1, 3) := by decide +kernel
theorem dX3_empty_20 : decode cX3_empty 20 = .ok (.goto (-18), 3) := by decide +kernel
theorem dX3_empty_23 : decode cX3_empty 23 = .ok (.return_, 1) := by decide +kernel
section T
variable {G : GT} {d : Nat} {S : List Value} {h : AH} {P : OC → AH → Prop} {x0 x1 x2 x3 x4 x5 x6 x7 x8 x9 x10 x11 x12 x13 x14 x15 : Option Value}
theorem tX3_empty_0 (r : RQ G mX3_empty d 1 [x0, x1] (.int (nI 0) :: S) (h) P) : RQ G mX3_empty d 0 [x0, x1] (S) h P := q_iconst (M := mX3_empty) (pc := 0) dX3_empty_0 (by decide) r
theorem tX3_empty_1 {v : Int32} (ho : ok1 x0 = true := by rfl) (r : RQ G mX3_empty d 2 [x0, some (.int v)] (S) (h) P) : RQ G mX3_empty d 1 [x0, x1] (.int v :: S) h P := q_istore_n (M := mX3_empty) (pc := 1) dX3_empty_1 rfl (Nat.le_of_ble_eq_true rfl) ho r
theorem tX3_empty_2 {v : Int32} (r : RQ G mX3_empty d 3 [x0, some (.int v)] (.int v :: S) (h) P) : RQ G mX3_empty d 2 [x0, some (.int v)] (S) h P := q_iload_n (M := mX3_empty) (pc := 2) dX3_empty_2 rfl rfl r
theorem tX3_empty_3 (r : RQ G mX3_empty d 5 [x0, x1] (.int (nI 8) :: S) (h) P) : RQ G mX3_empty d 3 [x0, x1] (S) h P := q_bipush (M := mX3_empty) (pc := 3) dX3_empty_3 (by decide) r
theorem tX3_empty_5 {x y : Int32} (kt : y ≤ x → RQ G mX3_empty d 23 [x0, x1] S h P) (kf : ¬ y ≤ x → RQ G mX3_empty d 8 [x0, x1] S h P) : RQ G mX3_empty d 5 [x0, x1] (.int y :: .int x :: S) h P := q_icmp_ge (M := mX3_empty) (pc := 5) dX3_empty_5 (by decide) kt kf
theorem tX3_empty_8 {k : Nat} (r : RQ G mX3_empty d 9 [some (.ref k), x1] (.ref k :: S) (h) P) : RQ G mX3_empty d 8 [some (.ref k), x1] (S) h P := q_aload_n (M := mX3_empty) (pc := 8) (r0 := some k) dX3_empty_8 rfl rfl r
theorem tX3_empty_9 {i : Nat} {vs : List Value} {v : Value} (ha : At h i (.inr (2, vs))) (hv : vs[0]? = some v) (r : RQ G mX3_empty d 12 [x0, x1] (v :: S) (h) P) : RQ G mX3_empty d 9 [x0, x1] (.ref i :: S) h P := q_get (M := mX3_empty) (pc := 9) (kf := 0) dX3_empty_9 (show CL[2]? = some (RX3, TX3, 5) from rfl) inA3 (by decide) rfl w199 ha hv r
theorem tX3_empty_12 {v : Int32} (r : RQ G mX3_empty d 13 [x0, some (.int v)] (.int v :: S) (h) P) : RQ G mX3_empty d 12 [x0, some (.int v)] (S) h P := q_iload_n (M := mX3_empty) (pc := 12) dX3_empty_12 rfl rfl r
theorem tX3_empty_13 {a n j b : Nat} {x : Int32} {f : Nat → Option Nat} (ha : At h a (.inl (3, n, .inr (.inr (.inr (.inr f)))))) (hx : x = nI j) (hj : j < n) (hn : n < 2147483648) (hf : f j = some b) (r : RQ G mX3_empty d 14 [x0, x1] (.ref b :: S) (h) P) : RQ G mX3_empty d 13 [x0, x1] (.int x :: .ref a :: S) h P := q_aald3 (M := mX3_empty) (pc := 13) dX3_empty_13 ha hx hj hn (by rw [hf]; exact r)
theorem tX3_empty_14 {b d2 : Nat} {vs : List Value}  {Q : AH → Prop} (hd : d2 + 1 ≤ d) (ha : At h b (.inr (3, vs))) (call : RQ G mX4_empty d2 0 [some (.ref b), none] [] h (Rv Q)) (k : ∀ h1, Q h1 → RQ G mX3_empty d 17 [x0, x1] S h1 P) (hst : (S.map fun v => v.category).sum ≤ 8 := by exact Nat.le_of_ble_eq_true rfl)  : RQ G mX3_empty d 14 [x0, x1] (.ref b :: S) h P := q_callV (M := mX3_empty) (pc := 14) (M2 := mX4_empty) (As := []) (n := 0) dX3_empty_14 rfl ⟨by decide, by decide, by decide, rfl⟩ rfl w1008 w1009 w1010 w47 w1011 (show CL[3]? = some (RX4, TX4, 10) from rfl) hd (by decide) (Nat.le_of_ble_eq_true rfl) rfl ha hst call (callk_v k)
theorem tX3_empty_17 {v : Int32} (ho : ok1 x0 = true := by rfl) (r : RQ G mX3_empty d 20 [x0, some (.int (v + (nI 1)))] (S) (h) P) : RQ G mX3_empty d 17 [x0, some (.int v)] (S) h P := q_iinc (M := mX3_empty) (pc := 17) dX3_empty_17 rfl (congrArg (v + ·) (show Int32.ofInt (1) = (nI 1) by decide)) (Nat.le_of_ble_eq_true rfl) ho r
theorem tX3_empty_20 (r : RQ G mX3_empty d 2 [x0, x1] S h P) : RQ G mX3_empty d 20 [x0, x1] (S) h P := q_goto (M := mX3_empty) (pc := 20) dX3_empty_20 (by decide) r
theorem tX3_empty_23 (hP : P (.inl none) h) : RQ G mX3_empty d 23 [x0, x1] ([]) h P := q_return (M := mX3_empty) (pc := 23) dX3_empty_23 rfl hP
end T
theorem dX3_becomeLike_0 : decode cX3_becomeLike 0 = .ok (.aload_n 0, 1) := by decide +kernel
theorem dX3_becomeLike_1 : decode cX3_becomeLike 1 = .ok (.aload_n 1, 1) := by decide +kernel
theorem dX3_becomeLike_2 : decode cX3_becomeLike 2 = .ok (.getfield 31, 3) := by decide +kernel
theorem dX3_becomeLike_5 : decode cX3_becomeLike 5 = .ok (.putfield 31, 3) := by decide +kernel
theorem dX3_becomeLike_8 : decode cX3_becomeLike 8 = .ok (.iconst 0, 1) := by decide +kernel
theorem dX3_becomeLike_9 : decode cX3_becomeLike 9 = .ok (.istore_n 2, 1) := by decide +kernel
theorem dX3_becomeLike_10 : decode cX3_becomeLike 10 = .ok (.iload_n 2, 1) := by decide +kernel
theorem dX3_becomeLike_11 : decode cX3_becomeLike 11 = .ok (.bipush 8, 2) := by decide +kernel
theorem dX3_becomeLike_13 : decode cX3_becomeLike 13 = .ok (.if_icmp .ge 24, 3) := by decide +kernel
theorem dX3_becomeLike_16 : decode cX3_becomeLike 16 = .ok (.aload_n 0, 1) := by decide +kernel
theorem dX3_becomeLike_17 : decode cX3_becomeLike 17 = .ok (.getfield 11, 3) := by decide +kernel
theorem dX3_becomeLike_20 : decode cX3_becomeLike 20 = .ok (.iload_n 2, 1) := by decide +kernel
theorem dX3_becomeLike_21 : decode cX3_becomeLike 21 = .ok (.aaload, 1) := by decide +kernel
theorem dX3_becomeLike_22 : decode cX3_becomeLike 22 = .ok (.aload_n 1, 1) := by decide +kernel
theorem dX3_becomeLike_23 : decode cX3_becomeLike 23 = .ok (.getfield 11, 3) := by decide +kernel
theorem dX3_becomeLike_26 : decode cX3_becomeLike 26 = .ok (.iload_n 2, 1) := by decide +kernel
theorem dX3_becomeLike_27 : decode cX3_becomeLike 27 = .ok (.aaload, 1) := by decide +kernel
theorem dX3_becomeLike_28 : decode cX3_becomeLike 28 = .ok (.invokevirtual 35, 3) := by decide +kernel
theorem dX3_becomeLike_31 : decode cX3_becomeLike 31 = .ok (.iinc 2 1, 3) := by decide +kernel
theorem dX3_becomeLike_34 : decode cX3_becomeLike 34 = .ok (.goto (-24), 3) := by decide +kernel
theorem dX3_becomeLike_37 : decode cX3_becomeLike 37 = .ok (.iconst 0, 1) := by decide +kernel
theorem dX3_becomeLike_38 : decode cX3_becomeLike 38 = .ok (.istore_n 2, 1) := by decide +kernel
theorem dX3_becomeLike_39 : decode cX3_becomeLike 39 = .ok (.iload_n 2, 1) := by decide +kernel
theorem dX3_becomeLike_40 : decode cX3_becomeLike 40 = .ok (.bipush 6, 2) := by decide +kernel
theorem dX3_becomeLike_42 : decode cX3_becomeLike 42 = .ok (.if_icmp .ge 21, 3) := by decide +kernel
theorem dX3_becomeLike_45 : decode cX3_becomeLike 45 = .ok (.aload_n 0, 1) := by decide +kernel
theorem dX3_becomeLike_46 : decode cX3_becomeLike 46 = .ok (.getfield 17, 3) := by decide +kernel
theorem dX3_becomeLike_49 : decode cX3_becomeLike 49 = .ok (.iload_n 2, 1) := by decide +kernel
theorem dX3_becomeLike_50 : decode cX3_becomeLike 50 = .ok (.aload_n 1, 1) := by decide +kernel
theorem dX3_becomeLike_51 : decode cX3_becomeLike 51 = .ok (.getfield 17, 3) := by decide +kernel
theorem dX3_becomeLike_54 : decode cX3_becomeLike 54 = .ok (.iload_n 2, 1) := by decide +kernel
theorem dX3_becomeLike_55 : decode cX3_becomeLike 55 = .ok (.iaload, 1) := by decide +kernel
theorem dX3_becomeLike_56 : decode cX3_becomeLike 56 = .ok (.iastore, 1) := by decide +kernel
theorem dX3_becomeLike_57 : decode cX3_becomeLike 57 = .ok (.iinc 2 1, 3) := by decide +kernel
theorem dX3_becomeLike_60 : decode cX3_becomeLike 60 = .ok (.goto (-21), 3) := by decide +kernel
theorem dX3_becomeLike_63 : decode cX3_becomeLike 63 = .ok (.iconst 0, 1) := by decide +kernel
theorem dX3_becomeLike_64 : decode cX3_becomeLike 64 = .ok (.istore_n 2, 1) := by decide +kernel
theorem dX3_becomeLike_65 : decode cX3_becomeLike 65 = .ok (.iload_n 2, 1) := by decide +kernel
theorem dX3_becomeLike_66 : decode cX3_becomeLike 66 = .ok (.bipush 6, 2) := by decide +kernel
theorem dX3_becomeLike_68 : decode cX3_becomeLike 68 = .ok (.if_icmp .ge 33, 3) := by decide +kernel
theorem dX3_becomeLike_71 : decode cX3_becomeLike 71 = .ok (.aload_n 0, 1) := by decide +kernel
theorem dX3_becomeLike_72 : decode cX3_becomeLike 72 = .ok (.getfield 21, 3) := by decide +kernel
theorem dX3_becomeLike_75 : decode cX3_becomeLike 75 = .ok (.iload_n 2, 1) := by decide +kernel
theorem dX3_becomeLike_76 : decode cX3_becomeLike 76 = .ok (.aload_n 1, 1) := by decide +kernel
theorem dX3_becomeLike_77 : decode cX3_becomeLike 77 = .ok (.getfield 21, 3) := by decide +kernel
theorem dX3_becomeLike_80 : decode cX3_becomeLike 80 = .ok (.iload_n 2, 1) := by decide +kernel
theorem dX3_becomeLike_81 : decode cX3_becomeLike 81 = .ok (.iaload, 1) := by decide +kernel
theorem dX3_becomeLike_82 : decode cX3_becomeLike 82 = .ok (.iastore, 1) := by decide +kernel
theorem dX3_becomeLike_83 : decode cX3_becomeLike 83 = .ok (.aload_n 0, 1) := by decide +kernel
theorem dX3_becomeLike_84 : decode cX3_becomeLike 84 = .ok (.getfield 24, 3) := by decide +kernel
theorem dX3_becomeLike_87 : decode cX3_becomeLike 87 = .ok (.iload_n 2, 1) := by decide +kernel
theorem dX3_becomeLike_88 : decode cX3_becomeLike 88 = .ok (.aload_n 1, 1) := by decide +kernel
theorem dX3_becomeLike_89 : decode cX3_becomeLike 89 = .ok (.getfield 24, 3) := by decide +kernel
theorem dX3_becomeLike_92 : decode cX3_becomeLike 92 = .ok (.iload_n 2, 1) := by decide +kernel
theorem dX3_becomeLike_93 : decode cX3_becomeLike 93 = .ok (.iaload, 1) := by decide +kernel
theorem dX3_becomeLike_94 : decode cX3_becomeLike 94 = .ok (.iastore, 1) := by decide +kernel
theorem dX3_becomeLike_95 : decode cX3_becomeLike 95 = .ok (.iinc 2 1, 3) := by decide +kernel
theorem dX3_becomeLike_98 : decode cX3_becomeLike 98 = .ok (.goto (-33), 3) := by decide +kernel
theorem dX3_becomeLike_101 : decode cX3_becomeLike 101 = .ok (.return_, 1) := by decide +kernel
section T
variable {G : GT} {d : Nat} {S : List Value} {h : AH} {P : OC → AH → Prop} {x0 x1 x2 x3 x4 x5 x6 x7 x8 x9 x10 x11 x12 x13 x14 x15 : Option Value}
theorem tX3_becomeLike_0 {k : Nat} (r : RQ G mX3_becomeLike d 1 [some (.ref k), x1, x2] (.ref k :: S) (h) P) : RQ G mX3_becomeLike d 0 [some (.ref k), x1, x2] (S) h P := q_aload_n (M := mX3_becomeLike) (pc := 0) (r0 := some k) dX3_becomeLike_0 rfl rfl r
theorem tX3_becomeLike_1 {k : Nat} (r : RQ G mX3_becomeLike d 2 [x0, some (.ref k), x2] (.ref k :: S) (h) P) : RQ G mX3_becomeLike d 1 [x0, some (.ref k), x2] (S) h P := q_aload_n (M := mX3_becomeLike) (pc := 1) (r0 := some k) dX3_becomeLike_1 rfl rfl r
theorem tX3_becomeLike_2 {i : Nat} {vs : List Value} {v : Value} (ha : At h i (.inr (2, vs))) (hv : vs[4]? = some v) (r : RQ G mX3_becomeLike d 5 [x0, x1, x2] (v :: S) (h) P) : RQ G mX3_becomeLike d 2 [x0, x1, x2] (.ref i :: S) h P := q_get (M := mX3_becomeLike) (pc := 2) (kf := 4) dX3_becomeLike_2 (show CL[2]? = some (RX3, TX3, 5) from rfl) inA3 (by decide) rfl w213 ha hv r
theorem tX3_becomeLike_5 {i : Nat} {vs : List Value} {v : Int32} (ha : At h i (.inr (2, vs))) (hlen : vs.length = 5) (r : RQ G mX3_becomeLike d 8 [x0, x1, x2] (S) (hset h i (.inr (2, vs.set 4 (.int v)))) P) : RQ G mX3_becomeLike d 5 [x0, x1, x2] (.int v :: .ref i :: S) h P := q_put (M := mX3_becomeLike) (pc := 5) (kf := 4) (host := "") dX3_becomeLike_5 (show CL[2]? = some (RX3, TX3, 5) from rfl) inA3 tyX3_ok nmX3 (by decide) rfl w213 rfl (tyX3_ok 4 (by decide)) (nfit_int v) (by rw [hlen]; decide) ha r
theorem tX3_becomeLike_8 (r : RQ G mX3_becomeLike d 9 [x0, x1, x2] (.int (nI 0) :: S) (h) P) : RQ G mX3_becomeLike d 8 [x0, x1, x2] (S) h P := q_iconst (M := mX3_becomeLike) (pc := 8) dX3_becomeLike_8 (by decide) r
theorem tX3_becomeLike_9 {v : Int32} (ho : ok1 x1 = true := by rfl) (r : RQ G mX3_becomeLike d 10 [x0, x1, some (.int v)] (S) (h) P) : RQ G mX3_becomeLike d 9 [x0, x1, x2] (.int v :: S) h P := q_istore_n (M := mX3_becomeLike) (pc := 9) dX3_becomeLike_9 rfl (Nat.le_of_ble_eq_true rfl) ho r
theorem tX3_becomeLike_10 {v : Int32} (r : RQ G mX3_becomeLike d 11 [x0, x1, some (.int v)] (.int v :: S) (h) P) : RQ G mX3_becomeLike d 10 [x0, x1, some (.int v)] (S) h P := q_iload_n (M := mX3_becomeLike) (pc := 10) dX3_becomeLike_10 rfl rfl r
theorem tX3_becomeLike_11 (r : RQ G mX3_becomeLike d 13 [x0, x1, x2] (.int (nI 8) :: S) (h) P) : RQ G mX3_becomeLike d 11 [x0, x1, x2] (S) h P := q_bipush (M := mX3_becomeLike) (pc := 11) dX3_becomeLike_11 (by decide) r
theorem tX3_becomeLike_13 {x y : Int32} (kt : y ≤ x → RQ G mX3_becomeLike d 37 [x0, x1, x2] S h P) (kf : ¬ y ≤ x → RQ G mX3_becomeLike d 16 [x0, x1, x2] S h P) : RQ G mX3_becomeLike d 13 [x0, x1, x2] (.int y :: .int x :: S) h P := q_icmp_ge (M := mX3_becomeLike) (pc := 13) dX3_becomeLike_13 (by decide) kt kf
theorem tX3_becomeLike_16 {k : Nat} (r : RQ G mX3_becomeLike d 17 [some (.ref k), x1, x2] (.ref k :: S) (h) P) : RQ G mX3_becomeLike d 16 [some (.ref k), x1, x2] (S) h P := q_aload_n (M := mX3_becomeLike) (pc := 16) (r0 := some k) dX3_becomeLike_16 rfl rfl r
theorem tX3_becomeLike_17 {i : Nat} {vs : List Value} {v : Value} (ha : At h i (.inr (2, vs))) (hv : vs[0]? = some v) (r : RQ G mX3_becomeLike d 20 [x0, x1, x2] (v :: S) (h) P) : RQ G mX3_becomeLike d 17 [x0, x1, x2] (.ref i :: S) h P := q_get (M := mX3_becomeLike) (pc := 17) (kf := 0) dX3_becomeLike_17 (show CL[2]? = some (RX3, TX3, 5) from rfl) inA3 (by decide) rfl w199 ha hv r
theorem tX3_becomeLike_20 {v : Int32} (r : RQ G mX3_becomeLike d 21 [x0, x1, some (.int v)] (.int v :: S) (h) P) : RQ G mX3_becomeLike d 20 [x0, x1, some (.int v)] (S) h P := q_iload_n (M := mX3_becomeLike) (pc := 20) dX3_becomeLike_20 rfl rfl r
theorem tX3_becomeLike_21 {a n j b : Nat} {x : Int32} {f : Nat → Option Nat} (ha : At h a (.inl (3, n, .inr (.inr (.inr (.inr f)))))) (hx : x = nI j) (hj : j < n) (hn : n < 2147483648) (hf : f j = some b) (r : RQ G mX3_becomeLike d 22 [x0, x1, x2] (.ref b :: S) (h) P) : RQ G mX3_becomeLike d 21 [x0, x1, x2] (.int x :: .ref a :: S) h P := q_aald3 (M := mX3_becomeLike) (pc := 21) dX3_becomeLike_21 ha hx hj hn (by rw [hf]; exact r)
theorem tX3_becomeLike_22 {k : Nat} (r : RQ G mX3_becomeLike d 23 [x0, some (.ref k), x2] (.ref k :: S) (h) P) : RQ G mX3_becomeLike d 22 [x0, some (.ref k), x2] (S) h P := q_aload_n (M := mX3_becomeLike) (pc := 22) (r0 := some k) dX3_becomeLike_22 rfl rfl r
theorem tX3_becomeLike_23 {i : Nat} {vs : List Value} {v : Value} (ha : At h i (.inr (2, vs))) (hv : vs[0]? = some v) (r : RQ G mX3_becomeLike d 26 [x0, x1, x2] (v :: S) (h) P) : RQ G mX3_becomeLike d 23 [x0, x1, x2] (.ref i :: S) h P := q_get (M := mX3_becomeLike) (pc := 23) (kf := 0) dX3_becomeLike_23 (show CL[2]? = some (RX3, TX3, 5) from rfl) inA3 (by decide) rfl w199 ha hv r
theorem tX3_becomeLike_26 {v : Int32} (r : RQ G mX3_becomeLike d 27 [x0, x1, some (.int v)] (.int v :: S) (h) P) : RQ G mX3_becomeLike d 26 [x0, x1, some (.int v)] (S) h P := q_iload_n (M := mX3_becomeLike) (pc := 26) dX3_becomeLike_26 rfl rfl r
theorem tX3_becomeLike_27 {a n j b : Nat} {x : Int32} {f : Nat → Option Nat} (ha : At h a (.inl (3, n, .inr (.inr (.inr (.inr f)))))) (hx : x = nI j) (hj : j < n) (hn : n < 2147483648) (hf : f j = some b) (r : RQ G mX3_becomeLike d 28 [x0, x1, x2] (.ref b :: S) (h) P) : RQ G mX3_becomeLike d 27 [x0, x1, x2] (.int x :: .ref a :: S) h P := q_aald3 (M := mX3_becomeLike) (pc := 27) dX3_becomeLike_27 ha hx hj hn (by rw [hf]; exact r)
theorem tX3_becomeLike_28 {b d2 : Nat} {vs : List Value} {a0 : Nat} {Q : AH → Prop} (hd : d2 + 1 ≤ d) (ha : At h b (.inr (3, vs))) (call : RQ G mX4_becomeLike d2 0 [some (.ref b), some (.ref a0), none] [] h (Rv Q)) (k : ∀ h1, Q h1 → RQ G mX3_becomeLike d 31 [x0, x1, x2] S h1 P) (hst : (S.map fun v => v.category).sum ≤ 8 := by exact Nat.le_of_ble_eq_true rfl)  : RQ G mX3_becomeLike d 28 [x0, x1, x2] (.ref a0 :: .ref b :: S) h P := q_callV (M := mX3_becomeLike) (pc := 28) (M2 := mX4_becomeLike) (As := [.ref a0]) (n := 1) dX3_becomeLike_28 rfl ⟨by decide, by decide, by decide, rfl⟩ rfl w658 w659 w660 w47 w661 (show CL[3]? = some (RX4, TX4, 10) from rfl) hd (by decide) (Nat.le_of_ble_eq_true rfl) rfl ha hst call (callk_v k)
theorem tX3_becomeLike_31 {v : Int32} (ho : ok1 x1 = true := by rfl) (r : RQ G mX3_becomeLike d 34 [x0, x1, some (.int (v + (nI 1)))] (S) (h) P) : RQ G mX3_becomeLike d 31 [x0, x1, some (.int v)] (S) h P := q_iinc (M := mX3_becomeLike) (pc := 31) dX3_becomeLike_31 rfl (congrArg (v + ·) (show Int32.ofInt (1) = (nI 1) by decide)) (Nat.le_of_ble_eq_true rfl) ho r
theorem tX3_becomeLike_34 (r : RQ G mX3_becomeLike d 10 [x0, x1, x2] S h P) : RQ G mX3_becomeLike d 34 [x0, x1, x2] (S) h P := q_goto (M := mX3_becomeLike) (pc := 34) dX3_becomeLike_34 (by decide) r
theorem tX3_becomeLike_37 (r : RQ G mX3_becomeLike d 38 [x0, x1, x2] (.int (nI 0) :: S) (h) P) : RQ G mX3_becomeLike d 37 [x0, x1, x2] (S) h P := q_iconst (M := mX3_becomeLike) (pc := 37) dX3_becomeLike_37 (by decide) r
theorem tX3_becomeLike_38 {v : Int32} (ho : ok1 x1 = true := by rfl) (r : RQ G mX3_becomeLike d 39 [x0, x1, some (.int v)] (S) (h) P) : RQ G mX3_becomeLike d 38 [x0, x1, x2] (.int v :: S) h P := q_istore_n (M := mX3_becomeLike) (pc := 38) dX3_becomeLike_38 rfl (Nat.le_of_ble_eq_true rfl) ho r
theorem tX3_becomeLike_39 {v : Int32} (r : RQ G mX3_becomeLike d 40 [x0, x1, some (.int v)] (.int v :: S) (h) P) : RQ G mX3_becomeLike d 39 [x0, x1, some (.int v)] (S) h P := q_iload_n (M := mX3_becomeLike) (pc := 39) dX3_becomeLike_39 rfl rfl r
theorem tX3_becomeLike_40 (r : RQ G mX3_becomeLike d 42 [x0, x1, x2] (.int (nI 6) :: S) (h) P) : RQ G mX3_becomeLike d 40 [x0, x1, x2] (S) h P := q_bipush (M := mX3_becomeLike) (pc := 40) dX3_becomeLike_40 (by decide) r
theorem tX3_becomeLike_42 {x y : Int32} (kt : y ≤ x → RQ G mX3_becomeLike d 63 [x0, x1, x2] S h P) (kf : ¬ y ≤ x → RQ G mX3_becomeLike d 45 [x0, x1, x2] S h P) : RQ G mX3_becomeLike d 42 [x0, x1, x2] (.int y :: .int x :: S) h P := q_icmp_ge (M := mX3_becomeLike) (pc := 42) dX3_becomeLike_42 (by decide) kt kf
theorem tX3_becomeLike_45 {k : Nat} (r : RQ G mX3_becomeLike d 46 [some (.ref k), x1, x2] (.ref k :: S) (h) P) : RQ G mX3_becomeLike d 45 [some (.ref k), x1, x2] (S) h P := q_aload_n (M := mX3_becomeLike) (pc := 45) (r0 := some k) dX3_becomeLike_45 rfl rfl r
theorem tX3_becomeLike_46 {i : Nat} {vs : List Value} {v : Value} (ha : At h i (.inr (2, vs))) (hv : vs[1]? = some v) (r : RQ G mX3_becomeLike d 49 [x0, x1, x2] (v :: S) (h) P) : RQ G mX3_becomeLike d 46 [x0, x1, x2] (.ref i :: S) h P := q_get (M := mX3_becomeLike) (pc := 46) (kf := 1) dX3_becomeLike_46 (show CL[2]? = some (RX3, TX3, 5) from rfl) inA3 (by decide) rfl w203 ha hv r
theorem tX3_becomeLike_49 {v : Int32} (r : RQ G mX3_becomeLike d 50 [x0, x1, some (.int v)] (.int v :: S) (h) P) : RQ G mX3_becomeLike d 49 [x0, x1, some (.int v)] (S) h P := q_iload_n (M := mX3_becomeLike) (pc := 49) dX3_becomeLike_49 rfl rfl r
theorem tX3_becomeLike_50 {k : Nat} (r : RQ G mX3_becomeLike d 51 [x0, some (.ref k), x2] (.ref k :: S) (h) P) : RQ G mX3_becomeLike d 50 [x0, some (.ref k), x2] (S) h P := q_aload_n (M := mX3_becomeLike) (pc := 50) (r0 := some k) dX3_becomeLike_50 rfl rfl r
theorem tX3_becomeLike_51 {i : Nat} {vs : List Value} {v : Value} (ha : At h i (.inr (2, vs))) (hv : vs[1]? = some v) (r : RQ G mX3_becomeLike d 54 [x0, x1, x2] (v :: S) (h) P) : RQ G mX3_becomeLike d 51 [x0, x1, x2] (.ref i :: S) h P := q_get (M := mX3_becomeLike) (pc := 51) (kf := 1) dX3_becomeLike_51 (show CL[2]? = some (RX3, TX3, 5) from rfl) inA3 (by decide) rfl w203 ha hv r
theorem tX3_becomeLike_54 {v : Int32} (r : RQ G mX3_becomeLike d 55 [x0, x1, some (.int v)] (.int v :: S) (h) P) : RQ G mX3_becomeLike d 54 [x0, x1, some (.int v)] (S) h P := q_iload_n (M := mX3_becomeLike) (pc := 54) dX3_becomeLike_54 rfl rfl r
theorem tX3_becomeLike_55 {a n j : Nat} {x : Int32} {f : Nat → Int32} (ha : At h a (.inl (0, n, .inl f))) (hx : x = nI j) (hj : j < n) (hn : n < 2147483648) (r : RQ G mX3_becomeLike d 56 [x0, x1, x2] (.int (f j) :: S) (h) P) : RQ G mX3_becomeLike d 55 [x0, x1, x2] (.int x :: .ref a :: S) h P := q_iald (M := mX3_becomeLike) (pc := 55) dX3_becomeLike_55 ha hx hj hn r
theorem tX3_becomeLike_56 {a n j : Nat} {x : Int32} {v : Int32} {f : Nat → Int32} (ha : At h a (.inl (0, n, .inl f))) (hx : x = nI j) (hj : j < n) (hn : n < 2147483648) (r : RQ G mX3_becomeLike d 57 [x0, x1, x2] (S) (hset h a (.inl (0, n, .inl (upd f j v)))) P) : RQ G mX3_becomeLike d 56 [x0, x1, x2] (.int v :: .int x :: .ref a :: S) h P := q_iast (M := mX3_becomeLike) (pc := 56) dX3_becomeLike_56 ha hx hj hn r
theorem tX3_becomeLike_57 {v : Int32} (ho : ok1 x1 = true := by rfl) (r : RQ G mX3_becomeLike d 60 [x0, x1, some (.int (v + (nI 1)))] (S) (h) P) : RQ G mX3_becomeLike d 57 [x0, x1, some (.int v)] (S) h P := q_iinc (M := mX3_becomeLike) (pc := 57) dX3_becomeLike_57 rfl (congrArg (v + ·) (show Int32.ofInt (1) = (nI 1) by decide)) (Nat.le_of_ble_eq_true rfl) ho r
theorem tX3_becomeLike_60 (r : RQ G mX3_becomeLike d 39 [x0, x1, x2] S h P) : RQ G mX3_becomeLike d 60 [x0, x1, x2] (S) h P := q_goto (M := mX3_becomeLike) (pc := 60) dX3_becomeLike_60 (by decide) r
theorem tX3_becomeLike_63 (r : RQ G mX3_becomeLike d 64 [x0, x1, x2] (.int (nI 0) :: S) (h) P) : RQ G mX3_becomeLike d 63 [x0, x1, x2] (S) h P := q_iconst (M := mX3_becomeLike) (pc := 63) dX3_becomeLike_63 (by decide) r
theorem tX3_becomeLike_64 {v : Int32} (ho : ok1 x1 = true := by rfl) (r : RQ G mX3_becomeLike d 65 [x0, x1, some (.int v)] (S) (h) P) : RQ G mX3_becomeLike d 64 [x0, x1, x2] (.int v :: S) h P := q_istore_n (M := mX3_becomeLike) (pc := 64) dX3_becomeLike_64 rfl (Nat.le_of_ble_eq_true rfl) ho r
theorem tX3_becomeLike_65 {v : Int32} (r : RQ G mX3_becomeLike d 66 [x0, x1, some (.int v)] (.int v :: S) (h) P) : RQ G mX3_becomeLike d 65 [x0, x1, some (.int v)] (S) h P := q_iload_n (M := mX3_becomeLike) (pc := 65) dX3_becomeLike_65 rfl rfl r
theorem tX3_becomeLike_66 (r : RQ G mX3_becomeLike d 68 [x0, x1, x2] (.int (nI 6) :: S) (h) P) : RQ G mX3_becomeLike d 66 [x0, x1, x2] (S) h P := q_bipush (M := mX3_becomeLike) (pc := 66) dX3_becomeLike_66 (by decide) r
theorem tX3_becomeLike_68 {x y : Int32} (kt : y ≤ x → RQ G mX3_becomeLike d 101 [x0, x1, x2] S h P) (kf : ¬ y ≤ x → RQ G mX3_becomeLike d 71 [x0, x1, x2] S h P) : RQ G mX3_becomeLike d 68 [x0, x1, x2] (.int y :: .int x :: S) h P := q_icmp_ge (M := mX3_becomeLike) (pc := 68) dX3_becomeLike_68 (by decide) kt kf
theorem tX3_becomeLike_71 {k : Nat} (r : RQ G mX3_becomeLike d 72 [some (.ref k), x1, x2] (.ref k :: S) (h) P) : RQ G mX3_becomeLike d 71 [some (.ref k), x1, x2] (S) h P := q_aload_n (M := mX3_becomeLike) (pc := 71) (r0 := some k) dX3_becomeLike_71 rfl rfl r
theorem tX3_becomeLike_72 {i : Nat} {vs : List Value} {v : Value} (ha : At h i (.inr (2, vs))) (hv : vs[2]? = some v) (r : RQ G mX3_becomeLike d 75 [x0, x1, x2] (v :: S) (h) P) : RQ G mX3_becomeLike d 72 [x0, x1, x2] (.ref i :: S) h P := q_get (M := mX3_becomeLike) (pc := 72) (kf := 2) dX3_becomeLike_72 (show CL[2]? = some (RX3, TX3, 5) from rfl) inA3 (by decide) rfl w207 ha hv r
theorem tX3_becomeLike_75 {v : Int32} (r : RQ G mX3_becomeLike d 76 [x0, x1, some (.int v)] (.int v :: S) (h) P) : RQ G mX3_becomeLike d 75 [x0, x1, some (.int v)] (S) h P := q_iload_n (M := mX3_becomeLike) (pc := 75) dX3_becomeLike_75 rfl rfl r
theorem tX3_becomeLike_76 {k : Nat} (r : RQ G mX3_becomeLike d 77 [x0, some (.ref k), x2] (.ref k :: S) (h) P) : RQ G mX3_becomeLike d 76 [x0, some (.ref k), x2] (S) h P := q_aload_n (M := mX3_becomeLike) (pc := 76) (r0 := some k) dX3_becomeLike_76 rfl rfl r
theorem tX3_becomeLike_77 {i : Nat} {vs : List Value} {v : Value} (ha : At h i (.inr (2, vs))) (hv : vs[2]? = some v) (r : RQ G mX3_becomeLike d 80 [x0, x1, x2] (v :: S) (h) P) : RQ G mX3_becomeLike d 77 [x0, x1, x2] (.ref i :: S) h P := q_get (M := mX3_becomeLike) (pc := 77) (kf := 2) dX3_becomeLike_77 (show CL[2]? = some (RX3, TX3, 5) from rfl) inA3 (by decide) rfl w207 ha hv r
theorem tX3_becomeLike_80 {v : Int32} (r : RQ G mX3_becomeLike d 81 [x0, x1, some (.int v)] (.int v :: S) (h) P) : RQ G mX3_becomeLike d 80 [x0, x1, some (.int v)] (S) h P := q_iload_n (M := mX3_becomeLike) (pc := 80) dX3_becomeLike_80 rfl rfl r
theorem tX3_becomeLike_81 {a n j : Nat} {x : Int32} {f : Nat → Int32} (ha : At h a (.inl (0, n, .inl f))) (hx : x = nI j) (hj : j < n) (hn : n < 2147483648) (r : RQ G mX3_becomeLike d 82 [x0, x1, x2] (.int (f j) :: S) (h) P) : RQ G mX3_becomeLike d 81 [x0, x1, x2] (.int x :: .ref a :: S) h P := q_iald (M := mX3_becomeLike) (pc := 81) dX3_becomeLike_81 ha hx hj hn r
theorem tX3_becomeLike_82 {a n j : Nat} {x : Int32} {v : Int32} {f : Nat → Int32} (ha : At h a (.inl (0, n, .inl f))) (hx : x = nI j) (hj : j < n) (hn : n < 2147483648) (r : RQ G mX3_becomeLike d 83 [x0, x1, x2] (S) (hset h a (.inl (0, n, .inl (upd f j v)))) P) : RQ G mX3_becomeLike d 82 [x0, x1, x2] (.int v :: .int x :: .ref a :: S) h P := q_iast (M := mX3_becomeLike) (pc := 82) dX3_becomeLike_82 ha hx hj hn r
theorem tX3_becomeLike_83 {k : Nat} (r : RQ G mX3_becomeLike d 84 [some (.ref k), x1, x2] (.ref k :: S) (h) P) : RQ G mX3_becomeLike d 83 [some (.ref k), x1, x2] (S) h P := q_aload_n (M := mX3_becomeLike) (pc := 83) (r0 := some k) dX3_becomeLike_83 rfl rfl r
theorem tX3_becomeLike_84 {i : Nat} {vs : List Value} {v : Value} (ha : At h i (.inr (2, vs))) (hv : vs[3]? = some v) (r : RQ G mX3_becomeLike d 87 [x0, x1, x2] (v :: S) (h) P) : RQ G mX3_becomeLike d 84 [x0, x1, x2] (.ref i :: S) h P := q_get (M := mX3_becomeLike) (pc := 84) (kf := 3) dX3_becomeLike_84 (show CL[2]? = some (RX3, TX3, 5) from rfl) inA3 (by decide) rfl w209 ha hv r
theorem tX3_becomeLike_87 {v : Int32} (r : RQ G mX3_becomeLike d 88 [x0, x1, some (.int v)] (.int v :: S) (h) P) : RQ G mX3_becomeLike d 87 [x0, x1, some (.int v)] (S) h P := q_iload_n (M := mX3_becomeLike) (pc := 87) dX3_becomeLike_87 rfl rfl r
theorem tX3_becomeLike_88 {k : Nat} (r : RQ G mX3_becomeLike d 89 [x0, some (.ref k), x2] (.ref k :: S) (h) P) : RQ G mX3_becomeLike d 88 [x0, some (.ref k), x2] (S) h P := q_aload_n (M := mX3_becomeLike) (pc := 88) (r0 := some k) dX3_becomeLike_88 rfl rfl r
theorem tX3_becomeLike_89 {i : Nat} {vs : List Value} {v : Value} (ha : At h i (.inr (2, vs))) (hv : vs[3]? = some v) (r : RQ G mX3_becomeLike d 92 [x0, x1, x2] (v :: S) (h) P) : RQ G mX3_becomeLike d 89 [x0, x1, x2] (.ref i :: S) h P := q_get (M := mX3_becomeLike) (pc := 89) (kf := 3) dX3_becomeLike_89 (show CL[2]? = some (RX3, TX3, 5) from rfl) inA3 (by decide) rfl w209 ha hv r
theorem tX3_becomeLike_92 {v : Int32} (r : RQ G mX3_becomeLike d 93 [x0, x1, some (.int v)] (.int v :: S) (h) P) : RQ G mX3_becomeLike d 92 [x0, x1, some (.int v)] (S) h P := q_iload_n (M := mX3_becomeLike) (pc := 92) dX3_becomeLike_92 rfl rfl r
theorem tX3_becomeLike_93 {a n j : Nat} {x : Int32} {f : Nat → Int32} (ha : At h a (.inl (0, n, .inl f))) (hx : x = nI j) (hj : j < n) (hn : n < 2147483648) (r : RQ G mX3_becomeLike d 94 [x0, x1, x2] (.int (f j) :: S) (h) P) : RQ G mX3_becomeLike d 93 [x0, x1, x2] (.int x :: .ref a :: S) h P := q_iald (M := mX3_becomeLike) (pc := 93) dX3_becomeLike_93 ha hx hj hn r
theorem tX3_becomeLike_94 {a n j : Nat} {x : Int32} {v : Int32} {f : Nat → Int32} (ha : At h a (.inl (0, n, .inl f))) (hx : x = nI j) (hj : j < n) (hn : n < 2147483648) (r : RQ G mX3_becomeLike d 95 [x0, x1, x2] (S) (hset h a (.inl (0, n, .inl (upd f j v)))) P) : RQ G mX3_becomeLike d 94 [x0, x1, x2] (.int v :: .int x :: .ref a :: S) h P := q_iast (M := mX3_becomeLike) (pc := 94) dX3_becomeLike_94 ha hx hj hn r
theorem tX3_becomeLike_95 {v : Int32} (ho : ok1 x1 = true := by rfl) (r : RQ G mX3_becomeLike d 98 [x0, x1, some (.int (v + (nI 1)))] (S) (h) P) : RQ G mX3_becomeLike d 95 [x0, x1, some (.int v)] (S) h P := q_iinc (M := mX3_becomeLike) (pc := 95) dX3_becomeLike_95 rfl (congrArg (v + ·) (show Int32.ofInt (1) = (nI 1) by decide)) (Nat.le_of_ble_eq_true rfl) ho r
theorem tX3_becomeLike_98 (r : RQ G mX3_becomeLike d 65 [x0, x1, x2] S h P) : RQ G mX3_becomeLike d 98 [x0, x1, x2] (S) h P := q_goto (M := mX3_becomeLike) (pc := 98) dX3_becomeLike_98 (by decide) r
theorem tX3_becomeLike_101 (hP : P (.inl none) h) : RQ G mX3_becomeLike d 101 [x0, x1, x2] ([]) h P := q_return (M := mX3_becomeLike) (pc := 101) dX3_becomeLike_101 rfl hP
end T
theorem dX3_counted_0 : decode cX3_counted 0 = .ok (.aload_n 0, 1) := by decide +kernel
theorem dX3_counted_1 : decode cX3_counted 1 = .ok (.getfield 11, 3) := by decide +kernel
theorem dX3_counted_4 : decode cX3_counted 4 = .ok (.iload_n 1, 1) := by decide +kernel
theorem dX3_counted_5 : decode cX3_counted 5 = .ok (.aaload, 1) := by decide +kernel
theorem dX3_counted_6 : decode cX3_counted 6 = .ok (.aload_n 0, 1) := by decide +kernel
theorem dX3_counted_7 : decode cX3_counted 7 = .ok (.getfield 24, 3) := by decide +kernel
theorem dX3_counted_10 : decode cX3_counted 10 = .ok (.invokevirtual 39, 3) := by decide +kernel
theorem dX3_counted_13 : decode cX3_counted 13 = .ok (.aload_n 0, 1) := by decide +kernel
theorem dX3_counted_14 : decode cX3_counted 14 = .ok (.getfield 11, 3) := by decide +kernel
theorem dX3_counted_17 : decode cX3_counted 17 = .ok (.iload_n 1, 1) := by decide +kernel
theorem dX3_counted_18 : decode cX3_counted 18 = .ok (.aaload, 1) := by decide +kernel
theorem dX3_counted_19 : decode cX3_counted 19 = .ok (.areturn, 1) := by decide +kernel
section T
variable {G : GT} {d : Nat} {S : List Value} {h : AH} {P : OC → AH → Prop} {x0 x1 x2 x3 x4 x5 x6 x7 x8 x9 x10 x11 x12 x13 x14 x15 : Option Value}
theorem tX3_counted_0 {k : Nat} (r : RQ G mX3_counted d 1 [some (.ref k), x1] (.ref k :: S) (h) P) : RQ G mX3_counted d 0 [some (.ref k), x1] (S) h P := q_aload_n (M := mX3_counted) (pc := 0) (r0 := some k) dX3_counted_0 rfl rfl r
theorem tX3_counted_1 {i : Nat} {vs : List Value} {v : Value} (ha : At h i (.inr (2, vs))) (hv : vs[0]? = some v) (r : RQ G mX3_counted d 4 [x0, x1] (v :: S) (h) P) : RQ G mX3_counted d 1 [x0, x1] (.ref i :: S) h P := q_get (M := mX3_counted) (pc := 1) (kf := 0) dX3_counted_1 (show CL[2]? = some (RX3, TX3, 5) from rfl) inA3 (by decide) rfl w199 ha hv r
theorem tX3_counted_4 {v : Int32} (r : RQ G mX3_counted d 5 [x0, some (.int v)] (.int v :: S) (h) P) : RQ G mX3_counted d 4 [x0, some (.int v)] (S) h P := q_iload_n (M := mX3_counted) (pc := 4) dX3_counted_4 rfl rfl r
theorem tX3_counted_5 {a n j b : Nat} {x : Int32} {f : Nat → Option Nat} (ha : At h a (.inl (3, n, .inr (.inr (.inr (.inr f)))))) (hx : x = nI j) (hj : j < n) (hn : n < 2147483648) (hf : f j = some b) (r : RQ G mX3_counted d 6 [x0, x1] (.ref b :: S) (h) P) : RQ G mX3_counted d 5 [x0, x1] (.int x :: .ref a :: S) h P := q_aald3 (M := mX3_counted) (pc := 5) dX3_counted_5 ha hx hj hn (by rw [hf]; exact r)
theorem tX3_counted_6 {k : Nat} (r : RQ G mX3_counted d 7 [some (.ref k), x1] (.ref k :: S) (h) P) : RQ G mX3_counted d 6 [some (.ref k), x1] (S) h P := q_aload_n (M := mX3_counted) (pc := 6) (r0 := some k) dX3_counted_6 rfl rfl r
theorem tX3_counted_7 {i : Nat} {vs : List Value} {v : Value} (ha : At h i (.inr (2, vs))) (hv : vs[3]? = some v) (r : RQ G mX3_counted d 10 [x0, x1] (v :: S) (h) P) : RQ G mX3_counted d 7 [x0, x1] (.ref i :: S) h P := q_get (M := mX3_counted) (pc := 7) (kf := 3) dX3_counted_7 (show CL[2]? = some (RX3, TX3, 5) from rfl) inA3 (by decide) rfl w209 ha hv r
theorem tX3_counted_10 {b d2 : Nat} {vs : List Value} {a0 : Nat} {Q : AH → Prop} (hd : d2 + 1 ≤ d) (ha : At h b (.inr (3, vs))) (call : RQ G mX4_count d2 0 [some (.ref b), some (.ref a0)] [] h (Rv Q)) (k : ∀ h1, Q h1 → RQ G mX3_counted d 13 [x0, x1] S h1 P) (hst : (S.map fun v => v.category).sum ≤ 8 := by exact Nat.le_of_ble_eq_true rfl)  : RQ G mX3_counted d 10 [x0, x1] (.ref a0 :: .ref b :: S) h P := q_callV (M := mX3_counted) (pc := 10) (M2 := mX4_count) (As := [.ref a0]) (n := 1) dX3_counted_10 rfl ⟨by decide, by decide, by decide, rfl⟩ rfl w474 w475 w476 w47 w477 (show CL[3]? = some (RX4, TX4, 10) from rfl) hd (by decide) (Nat.le_of_ble_eq_true rfl) rfl ha hst call (callk_v k)
theorem tX3_counted_13 {k : Nat} (r : RQ G mX3_counted d 14 [some (.ref k), x1] (.ref k :: S) (h) P) : RQ G mX3_counted d 13 [some (.ref k), x1] (S) h P := q_aload_n (M := mX3_counted) (pc := 13) (r0 := some k) dX3_counted_13 rfl rfl r
theorem tX3_counted_14 {i : Nat} {vs : List Value} {v : Value} (ha : At h i (.inr (2, vs))) (hv : vs[0]? = some v) (r : RQ G mX3_counted d 17 [x0, x1] (v :: S) (h) P) : RQ G mX3_counted d 14 [x0, x1] (.ref i :: S) h P := q_get (M := mX3_counted) (pc := 14) (kf := 0) dX3_counted_14 (show CL[2]? = some (RX3, TX3, 5) from rfl) inA3 (by decide) rfl w199 ha hv r
theorem tX3_counted_17 {v : Int32} (r : RQ G mX3_counted d 18 [x0, some (.int v)] (.int v :: S) (h) P) : RQ G mX3_counted d 17 [x0, some (.int v)] (S) h P := q_iload_n (M := mX3_counted) (pc := 17) dX3_counted_17 rfl rfl r
theorem tX3_counted_18 {a n j b : Nat} {x : Int32} {f : Nat → Option Nat} (ha : At h a (.inl (3, n, .inr (.inr (.inr (.inr f)))))) (hx : x = nI j) (hj : j < n) (hn : n < 2147483648) (hf : f j = some b) (r : RQ G mX3_counted d 19 [x0, x1] (.ref b :: S) (h) P) : RQ G mX3_counted d 18 [x0, x1] (.int x :: .ref a :: S) h P := q_aald3 (M := mX3_counted) (pc := 18) dX3_counted_18 ha hx hj hn (by rw [hf]; exact r)
theorem tX3_counted_19 {k : Nat} (hP : P (.inl (some (.ref k))) h) : RQ G mX3_counted d 19 [x0, x1] ([.ref k]) h P := q_areturn (M := mX3_counted) (pc := 19) (r0 := some k) dX3_counted_19 rfl hP
end T
theorem dX3_allSeats_0 : decode cX3_allSeats 0 = .ok (.iconst 0, 1) := by decide +kernel
theorem dX3_allSeats_1 : decode cX3_allSeats 1 = .ok (.istore_n 2, 1) := by decide +kernel
theorem dX3_allSeats_2 : decode cX3_allSeats 2 = .ok (.iconst 0, 1) := by decide +kernel
theorem dX3_allSeats_3 : decode cX3_allSeats 3 = .ok (.istore_n 3, 1) := by decide +kernel
theorem dX3_allSeats_4 : decode cX3_allSeats 4 = .ok (.iload_n 3, 1) := by decide +kernel
theorem dX3_allSeats_5 : decode cX3_allSeats 5 = .ok (.bipush 8, 2) := by decide +kernel
theorem dX3_allSeats_7 : decode cX3_allSeats 7 = .ok (.if_icmp .ge 41, 3) := by decide +kernel
theorem dX3_allSeats_10 : decode cX3_allSeats 10 = .ok (.aload_n 0, 1) := by decide +kernel
theorem dX3_allSeats_11 : decode cX3_allSeats 11 = .ok (.getfield 11, 3) := by decide +kernel
theorem dX3_allSeats_14 : decode cX3_allSeats 14 = .ok (.iload_n 3, 1) := by decide +kernel
theorem dX3_allSeats_15 : decode cX3_allSeats 15 = .ok (.aaload, 1) := by decide +kernel
theorem dX3_allSeats_16 : decode cX3_allSeats 16 = .ok (.aload_n 0, 1) := by decide +kernel
theorem dX3_allSeats_17 : decode cX3_allSeats 17 = .ok (.getfield 24, 3) := by decide +kernel
theorem dX3_allSeats_20 : decode cX3_allSeats 20 = .ok (.invokevirtual 39, 3) := by decide +kernel
theorem dX3_allSeats_23 : decode cX3_allSeats 23 = .ok (.iload_n 2, 1) := by decide +kernel
theorem dX3_allSeats_24 : decode cX3_allSeats 24 = .ok (.aload_n 0, 1) := by decide +kernel
theorem dX3_allSeats_25 : decode cX3_allSeats 25 = .ok (.getfield 11, 3) := by decide +kernel
theorem dX3_allSeats_28 : decode cX3_allSeats 28 = .ok (.iload_n 3, 1) := by decide +kernel
theorem dX3_allSeats_29 : decode cX3_allSeats 29 = .ok (.aaload, 1) := by decide +kernel
theorem dX3_allSeats_30 : decode cX3_allSeats 30 = .ok (.getfield 43, 3) := by decide +kernel
theorem dX3_allSeats_33 : decode cX3_allSeats 33 = .ok (.aload_n 0, 1) := by decide +kernel
theorem dX3_allSeats_34 : decode cX3_allSeats 34 = .ok (.getfield 24, 3) := by decide +kernel
theorem dX3_allSeats_37 : decode cX3_allSeats 37 = .ok (.iload_n 1, 1) := by decide +kernel
theorem dX3_allSeats_38 : decode cX3_allSeats 38 = .ok (.iaload, 1) := by decide +kernel
theorem dX3_allSeats_39 : decode cX3_allSeats 39 = .ok (.iaload, 1) := by decide +kernel
theorem dX3_allSeats_40 : decode cX3_allSeats 40 = .ok (.iadd, 1) := by decide +kernel
theorem dX3_allSeats_41 : decode cX3_allSeats 41 = .ok (.istore_n 2, 1) := by decide +kernel
theorem dX3_allSeats_42 : decode cX3_allSeats 42 = .ok (.iinc 3 1, 3) := by decide +kernel
theorem dX3_allSeats_45 : decode cX3_allSeats 45 = .ok (.goto (-41), 3) := by decide +kernel
theorem dX3_allSeats_48 : decode cX3_allSeats 48 = .ok (.iload_n 2, 1) := by decide +kernel
theorem dX3_allSeats_49 : decode cX3_allSeats 49 = .ok (.ireturn, 1) := by decide +kernel
section T
variable {G : GT} {d : Nat} {S : List Value} {h : AH} {P : OC → AH → Prop} {x0 x1 x2 x3 x4 x5 x6 x7 x8 x9 x10 x11 x12 x13 x14 x15 : Option Value}
theorem tX3_allSeats_0 (r : RQ G mX3_allSeats d 1 [x0, x1, x2, x3] (.int (nI 0) :: S) (h) P) : RQ G mX3_allSeats d 0 [x0, x1, x2, x3] (S) h P := q_iconst (M := mX3_allSeats) (pc := 0) dX3_allSeats_0 (by decide) r
theorem tX3_allSeats_1 {v : Int32} (ho : ok1 x1 = true := by rfl) (r : RQ G mX3_allSeats d 2 [x0, x1, some (.int v), x3] (S) (h) P) : RQ G mX3_allSeats d 1 [x0, x1, x2, x3] (.int v :: S) h P := q_istore_n (M := mX3_allSeats) (pc := 1) dX3_allSeats_1 rfl (Nat.le_of_ble_eq_true rfl) ho r
theorem tX3_allSeats_2 (r : RQ G mX3_allSeats d 3 [x0, x1, x2, x3] (.int (nI 0) :: S) (h) P) : RQ G mX3_allSeats d 2 [x0, x1, x2, x3] (S) h P := q_iconst (M := mX3_allSeats) (pc := 2) dX3_allSeats_2 (by decide) r
theorem tX3_allSeats_3 {v : Int32} (ho : ok1 x2 = true := by rfl) (r : RQ G mX3_allSeats d 4 [x0, x1, x2, some (.int v)] (S) (h) P) : RQ G mX3_allSeats d 3 [x0, x1, x2, x3] (.int v :: S) h P := q_istore_n (M := mX3_allSeats) (pc := 3) dX3_allSeats_3 rfl (Nat.le_of_ble_eq_true rfl) ho r
theorem tX3_allSeats_4 {v : Int32} (r : RQ G mX3_allSeats d 5 [x0, x1, x2, some (.int v)] (.int v :: S) (h) P) : RQ G mX3_allSeats d 4 [x0, x1, x2, some (.int v)] (S) h P := q_iload_n (M := mX3_allSeats) (pc := 4) dX3_allSeats_4 rfl rfl r
theorem tX3_allSeats_5 (r : RQ G mX3_allSeats d 7 [x0, x1, x2, x3] (.int (nI 8) :: S) (h) P) : RQ G mX3_allSeats d 5 [x0, x1, x2, x3] (S) h P := q_bipush (M := mX3_allSeats) (pc := 5) dX3_allSeats_5 (by decide) r
theorem tX3_allSeats_7 {x y : Int32} (kt : y ≤ x → RQ G mX3_allSeats d 48 [x0, x1, x2, x3] S h P) (kf : ¬ y ≤ x → RQ G mX3_allSeats d 10 [x0, x1, x2, x3] S h P) : RQ G mX3_allSeats d 7 [x0, x1, x2, x3] (.int y :: .int x :: S) h P := q_icmp_ge (M := mX3_allSeats) (pc := 7) dX3_allSeats_7 (by decide) kt kf
theorem tX3_allSeats_10 {k : Nat} (r : RQ G mX3_allSeats d 11 [some (.ref k), x1, x2, x3] (.ref k :: S) (h) P) : RQ G mX3_allSeats d 10 [some (.ref k), x1, x2, x3] (S) h P := q_aload_n (M := mX3_allSeats) (pc := 10) (r0 := some k) dX3_allSeats_10 rfl rfl r
theorem tX3_allSeats_11 {i : Nat} {vs : List Value} {v : Value} (ha : At h i (.inr (2, vs))) (hv : vs[0]? = some v) (r : RQ G mX3_allSeats d 14 [x0, x1, x2, x3] (v :: S) (h) P) : RQ G mX3_allSeats d 11 [x0, x1, x2, x3] (.ref i :: S) h P := q_get (M := mX3_allSeats) (pc := 11) (kf := 0) dX3_allSeats_11 (show CL[2]? = some (RX3, TX3, 5) from rfl) inA3 (by decide) rfl w199 ha hv r
theorem tX3_allSeats_14 {v : Int32} (r : RQ G mX3_allSeats d 15 [x0, x1, x2, some (.int v)] (.int v :: S) (h) P) : RQ G mX3_allSeats d 14 [x0, x1, x2, some (.int v)] (S) h P := q_iload_n (M := mX3_allSeats) (pc := 14) dX3_allSeats_14 rfl rfl r
theorem tX3_allSeats_15 {a n j b : Nat} {x : Int32} {f : Nat → Option Nat} (ha : At h a (.inl (3, n, .inr (.inr (.inr (.inr f)))))) (hx : x = nI j) (hj : j < n) (hn : n < 2147483648) (hf : f j = some b) (r : RQ G mX3_allSeats d 16 [x0, x1, x2, x3] (.ref b :: S) (h) P) : RQ G mX3_allSeats d 15 [x0, x1, x2, x3] (.int x :: .ref a :: S) h P := q_aald3 (M := mX3_allSeats) (pc := 15) dX3_allSeats_15 ha hx hj hn (by rw [hf]; exact r)
theorem tX3_allSeats_16 {k : Nat} (r : RQ G mX3_allSeats d 17 [some (.ref k), x1, x2, x3] (.ref k :: S) (h) P) : RQ G mX3_allSeats d 16 [some (.ref k), x1, x2, x3] (S) h P := q_aload_n (M := mX3_allSeats) (pc := 16) (r0 := some k) dX3_allSeats_16 rfl rfl r
theorem tX3_allSeats_17 {i : Nat} {vs : List Value} {v : Value} (ha : At h i (.inr (2, vs))) (hv : vs[3]? = some v) (r : RQ G mX3_allSeats d 20 [x0, x1, x2, x3] (v :: S) (h) P) : RQ G mX3_allSeats d 17 [x0, x1, x2, x3] (.ref i :: S) h P := q_get (M := mX3_allSeats) (pc := 17) (kf := 3) dX3_allSeats_17 (show CL[2]? = some (RX3, TX3, 5) from rfl) inA3 (by decide) rfl w209 ha hv r
theorem tX3_allSeats_20 {b d2 : Nat} {vs : List Value} {a0 : Nat} {Q : AH → Prop} (hd : d2 + 1 ≤ d) (ha : At h b (.inr (3, vs))) (call : RQ G mX4_count d2 0 [some (.ref b), some (.ref a0)] [] h (Rv Q)) (k : ∀ h1, Q h1 → RQ G mX3_allSeats d 23 [x0, x1, x2, x3] S h1 P) (hst : (S.map fun v => v.category).sum ≤ 8 := by exact Nat.le_of_ble_eq_true rfl)  : RQ G mX3_allSeats d 20 [x0, x1, x2, x3] (.ref a0 :: .ref b :: S) h P := q_callV (M := mX3_allSeats) (pc := 20) (M2 := mX4_count) (As := [.ref a0]) (n := 1) dX3_allSeats_20 rfl ⟨by decide, by decide, by decide, rfl⟩ rfl w474 w475 w476 w47 w477 (show CL[3]? = some (RX4, TX4, 10) from rfl) hd (by decide) (Nat.le_of_ble_eq_true rfl) rfl ha hst call (callk_v k)
theorem tX3_allSeats_23 {v : Int32} (r : RQ G mX3_allSeats d 24 [x0, x1, some (.int v), x3] (.int v :: S) (h) P) : RQ G mX3_allSeats d 23 [x0, x1, some (.int v), x3] (S) h P := q_iload_n (M := mX3_allSeats) (pc := 23) dX3_allSeats_23 rfl rfl r
theorem tX3_allSeats_24 {k : Nat} (r : RQ G mX3_allSeats d 25 [some (.ref k), x1, x2, x3] (.ref k :: S) (h) P) : RQ G mX3_allSeats d 24 [some (.ref k), x1, x2, x3] (S) h P := q_aload_n (M := mX3_allSeats) (pc := 24) (r0 := some k) dX3_allSeats_24 rfl rfl r
theorem tX3_allSeats_25 {i : Nat} {vs : List Value} {v : Value} (ha : At h i (.inr (2, vs))) (hv : vs[0]? = some v) (r : RQ G mX3_allSeats d 28 [x0, x1, x2, x3] (v :: S) (h) P) : RQ G mX3_allSeats d 25 [x0, x1, x2, x3] (.ref i :: S) h P := q_get (M := mX3_allSeats) (pc := 25) (kf := 0) dX3_allSeats_25 (show CL[2]? = some (RX3, TX3, 5) from rfl) inA3 (by decide) rfl w199 ha hv r
theorem tX3_allSeats_28 {v : Int32} (r : RQ G mX3_allSeats d 29 [x0, x1, x2, some (.int v)] (.int v :: S) (h) P) : RQ G mX3_allSeats d 28 [x0, x1, x2, some (.int v)] (S) h P := q_iload_n (M := mX3_allSeats) (pc := 28) dX3_allSeats_28 rfl rfl r
theorem tX3_allSeats_29 {a n j b : Nat} {x : Int32} {f : Nat → Option Nat} (ha : At h a (.inl (3, n, .inr (.inr (.inr (.inr f)))))) (hx : x = nI j) (hj : j < n) (hn : n < 2147483648) (hf : f j = some b) (r : RQ G mX3_allSeats d 30 [x0, x1, x2, x3] (.ref b :: S) (h) P) : RQ G mX3_allSeats d 29 [x0, x1, x2, x3] (.int x :: .ref a :: S) h P := q_aald3 (M := mX3_allSeats) (pc := 29) dX3_allSeats_29 ha hx hj hn (by rw [hf]; exact r)
theorem tX3_allSeats_30 {i : Nat} {vs : List Value} {v : Value} (ha : At h i (.inr (3, vs))) (hv : vs[2]? = some v) (r : RQ G mX3_allSeats d 33 [x0, x1, x2, x3] (v :: S) (h) P) : RQ G mX3_allSeats d 30 [x0, x1, x2, x3] (.ref i :: S) h P := q_getN (M := mX3_allSeats) (pc := 30) (kf := 2) dX3_allSeats_30 (show CL[3]? = some (RX4, TX4, 10) from rfl) inA4 (by decide) rfl v158 ha hv r
theorem tX3_allSeats_33 {k : Nat} (r : RQ G mX3_allSeats d 34 [some (.ref k), x1, x2, x3] (.ref k :: S) (h) P) : RQ G mX3_allSeats d 33 [some (.ref k), x1, x2, x3] (S) h P := q_aload_n (M := mX3_allSeats) (pc := 33) (r0 := some k) dX3_allSeats_33 rfl rfl r
theorem tX3_allSeats_34 {i : Nat} {vs : List Value} {v : Value} (ha : At h i (.inr (2, vs))) (hv : vs[3]? = some v) (r : RQ G mX3_allSeats d 37 [x0, x1, x2, x3] (v :: S) (h) P) : RQ G mX3_allSeats d 34 [x0, x1, x2, x3] (.ref i :: S) h P := q_get (M := mX3_allSeats) (pc := 34) (kf := 3) dX3_allSeats_34 (show CL[2]? = some (RX3, TX3, 5) from rfl) inA3 (by decide) rfl w209 ha hv r
theorem tX3_allSeats_37 {v : Int32} (r : RQ G mX3_allSeats d 38 [x0, some (.int v), x2, x3] (.int v :: S) (h) P) : RQ G mX3_allSeats d 37 [x0, some (.int v), x2, x3] (S) h P := q_iload_n (M := mX3_allSeats) (pc := 37) dX3_allSeats_37 rfl rfl r
theorem tX3_allSeats_38 {a n j : Nat} {x : Int32} {f : Nat → Int32} (ha : At h a (.inl (0, n, .inl f))) (hx : x = nI j) (hj : j < n) (hn : n < 2147483648) (r : RQ G mX3_allSeats d 39 [x0, x1, x2, x3] (.int (f j) :: S) (h) P) : RQ G mX3_allSeats d 38 [x0, x1, x2, x3] (.int x :: .ref a :: S) h P := q_iald (M := mX3_allSeats) (pc := 38) dX3_allSeats_38 ha hx hj hn r
theorem tX3_allSeats_39 {a n j : Nat} {x : Int32} {f : Nat → Int32} (ha : At h a (.inl (0, n, .inl f))) (hx : x = nI j) (hj : j < n) (hn : n < 2147483648) (r : RQ G mX3_allSeats d 40 [x0, x1, x2, x3] (.int (f j) :: S) (h) P) : RQ G mX3_allSeats d 39 [x0, x1, x2, x3] (.int x :: .ref a :: S) h P := q_iald (M := mX3_allSeats) (pc := 39) dX3_allSeats_39 ha hx hj hn r
theorem tX3_allSeats_40 {x y : Int32} (r : RQ G mX3_allSeats d 41 [x0, x1, x2, x3] (.int (x + y) :: S) (h) P) : RQ G mX3_allSeats d 40 [x0, x1, x2, x3] (.int y :: .int x :: S) h P := q_iadd (M := mX3_allSeats) (pc := 40) dX3_allSeats_40 r
theorem tX3_allSeats_41 {v : Int32} (ho : ok1 x1 = true := by rfl) (r : RQ G mX3_allSeats d 42 [x0, x1, some (.int v), x3] (S) (h) P) : RQ G mX3_allSeats d 41 [x0, x1, x2, x3] (.int v :: S) h P := q_istore_n (M := mX3_allSeats) (pc := 41) dX3_allSeats_41 rfl (Nat.le_of_ble_eq_true rfl) ho r
theorem tX3_allSeats_42 {v : Int32} (ho : ok1 x2 = true := by rfl) (r : RQ G mX3_allSeats d 45 [x0, x1, x2, some (.int (v + (nI 1)))] (S) (h) P) : RQ G mX3_allSeats d 42 [x0, x1, x2, some (.int v)] (S) h P := q_iinc (M := mX3_allSeats) (pc := 42) dX3_allSeats_42 rfl (congrArg (v + ·) (show Int32.ofInt (1) = (nI 1) by decide)) (Nat.le_of_ble_eq_true rfl) ho r
theorem tX3_allSeats_45 (r : RQ G mX3_allSeats d 4 [x0, x1, x2, x3] S h P) : RQ G mX3_allSeats d 45 [x0, x1, x2, x3] (S) h P := q_goto (M := mX3_allSeats) (pc := 45) dX3_allSeats_45 (by decide) r
theorem tX3_allSeats_48 {v : Int32} (r : RQ G mX3_allSeats d 49 [x0, x1, some (.int v), x3] (.int v :: S) (h) P) : RQ G mX3_allSeats d 48 [x0, x1, some (.int v), x3] (S) h P := q_iload_n (M := mX3_allSeats) (pc := 48) dX3_allSeats_48 rfl rfl r
theorem tX3_allSeats_49 {x : Int32} (hP : P (.inl (some (.int x))) h) : RQ G mX3_allSeats d 49 [x0, x1, x2, x3] ([.int x]) h P := q_ireturn (M := mX3_allSeats) (pc := 49) (ty := .int) dX3_allSeats_49 rfl rfl hP
end T
theorem dX3_governs_0 : decode cX3_governs 0 = .ok (.iconst 0, 1) := by decide +kernel
theorem dX3_governs_1 : decode cX3_governs 1 = .ok (.istore_n 2, 1) := by decide +kernel
theorem dX3_governs_2 : decode cX3_governs 2 = .ok (.iconst 0, 1) := by decide +kernel
theorem dX3_governs_3 : decode cX3_governs 3 = .ok (.istore_n 3, 1) := by decide +kernel
theorem dX3_governs_4 : decode cX3_governs 4 = .ok (.iload_n 3, 1) := by decide +kernel
theorem dX3_governs_5 : decode cX3_governs 5 = .ok (.bipush 8, 2) := by decide +kernel
theorem dX3_governs_7 : decode cX3_governs 7 = .ok (.if_icmp .ge 21, 3) := by decide +kernel
theorem dX3_governs_10 : decode cX3_governs 10 = .ok (.iload_n 2, 1) := by decide +kernel
theorem dX3_governs_11 : decode cX3_governs 11 = .ok (.aload_n 0, 1) := by decide +kernel
theorem dX3_governs_12 : decode cX3_governs 12 = .ok (.getfield 11, 3) := by decide +kernel
theorem dX3_governs_15 : decode cX3_governs 15 = .ok (.iload_n 3, 1) := by decide +kernel
theorem dX3_governs_16 : decode cX3_governs 16 = .ok (.aaload, 1) := by decide +kernel
theorem dX3_governs_17 : decode cX3_governs 17 = .ok (.getfield 46, 3) := by decide +kernel
theorem dX3_governs_20 : decode cX3_governs 20 = .ok (.iadd, 1) := by decide +kernel
theorem dX3_governs_21 : decode cX3_governs 21 = .ok (.istore_n 2, 1) := by decide +kernel
theorem dX3_governs_22 : decode cX3_governs 22 = .ok (.iinc 3 1, 3) := by decide +kernel
theorem dX3_governs_25 : decode cX3_governs 25 = .ok (.goto (-21), 3) := by decide +kernel
theorem dX3_governs_28 : decode cX3_governs 28 = .ok (.aload_n 0, 1) := by decide +kernel
theorem dX3_governs_29 : decode cX3_governs 29 = .ok (.iload_n 1, 1) := by decide +kernel
theorem dX3_governs_30 : decode cX3_governs 30 = .ok (.invokevirtual 49, 3) := by decide +kernel
theorem dX3_governs_33 : decode cX3_governs 33 = .ok (.iconst 2, 1) := by decide +kernel
theorem dX3_governs_34 : decode cX3_governs 34 = .ok (.imul, 1) := by decide +kernel
theorem dX3_governs_35 : decode cX3_governs 35 = .ok (.iload_n 2, 1) := by decide +kernel
theorem dX3_governs_36 : decode cX3_governs 36 = .ok (.if_icmp .le 7, 3) := by decide +kernel
theorem dX3_governs_39 : decode cX3_governs 39 = .ok (.iconst 1, 1) := by decide +kernel
theorem dX3_governs_40 : decode cX3_governs 40 = .ok (.goto 4, 3) := by decide +kernel
theorem dX3_governs_43 : decode cX3_governs 43 = .ok (.iconst 0, 1) := by decide +kernel
theorem dX3_governs_44 : decode cX3_governs 44 = .ok (.ireturn, 1) := by decide +kernel
section T
variable {G : GT} {d : Nat} {S : List Value} {h : AH} {P : OC → AH → Prop} {x0 x1 x2 x3 x4 x5 x6 x7 x8 x9 x10 x11 x12 x13 x14 x15 : Option Value}
theorem tX3_governs_0 (r : RQ G mX3_governs d 1 [x0, x1, x2, x3] (.int (nI 0) :: S) (h) P) : RQ G mX3_governs d 0 [x0, x1, x2, x3] (S) h P := q_iconst (M := mX3_governs) (pc := 0) dX3_governs_0 (by decide) r
theorem tX3_governs_1 {v : Int32} (ho : ok1 x1 = true := by rfl) (r : RQ G mX3_governs d 2 [x0, x1, some (.int v), x3] (S) (h) P) : RQ G mX3_governs d 1 [x0, x1, x2, x3] (.int v :: S) h P := q_istore_n (M := mX3_governs) (pc := 1) dX3_governs_1 rfl (Nat.le_of_ble_eq_true rfl) ho r
theorem tX3_governs_2 (r : RQ G mX3_governs d 3 [x0, x1, x2, x3] (.int (nI 0) :: S) (h) P) : RQ G mX3_governs d 2 [x0, x1, x2, x3] (S) h P := q_iconst (M := mX3_governs) (pc := 2) dX3_governs_2 (by decide) r
theorem tX3_governs_3 {v : Int32} (ho : ok1 x2 = true := by rfl) (r : RQ G mX3_governs d 4 [x0, x1, x2, some (.int v)] (S) (h) P) : RQ G mX3_governs d 3 [x0, x1, x2, x3] (.int v :: S) h P := q_istore_n (M := mX3_governs) (pc := 3) dX3_governs_3 rfl (Nat.le_of_ble_eq_true rfl) ho r
theorem tX3_governs_4 {v : Int32} (r : RQ G mX3_governs d 5 [x0, x1, x2, some (.int v)] (.int v :: S) (h) P) : RQ G mX3_governs d 4 [x0, x1, x2, some (.int v)] (S) h P := q_iload_n (M := mX3_governs) (pc := 4) dX3_governs_4 rfl rfl r
theorem tX3_governs_5 (r : RQ G mX3_governs d 7 [x0, x1, x2, x3] (.int (nI 8) :: S) (h) P) : RQ G mX3_governs d 5 [x0, x1, x2, x3] (S) h P := q_bipush (M := mX3_governs) (pc := 5) dX3_governs_5 (by decide) r
theorem tX3_governs_7 {x y : Int32} (kt : y ≤ x → RQ G mX3_governs d 28 [x0, x1, x2, x3] S h P) (kf : ¬ y ≤ x → RQ G mX3_governs d 10 [x0, x1, x2, x3] S h P) : RQ G mX3_governs d 7 [x0, x1, x2, x3] (.int y :: .int x :: S) h P := q_icmp_ge (M := mX3_governs) (pc := 7) dX3_governs_7 (by decide) kt kf
theorem tX3_governs_10 {v : Int32} (r : RQ G mX3_governs d 11 [x0, x1, some (.int v), x3] (.int v :: S) (h) P) : RQ G mX3_governs d 10 [x0, x1, some (.int v), x3] (S) h P := q_iload_n (M := mX3_governs) (pc := 10) dX3_governs_10 rfl rfl r
theorem tX3_governs_11 {k : Nat} (r : RQ G mX3_governs d 12 [some (.ref k), x1, x2, x3] (.ref k :: S) (h) P) : RQ G mX3_governs d 11 [some (.ref k), x1, x2, x3] (S) h P := q_aload_n (M := mX3_governs) (pc := 11) (r0 := some k) dX3_governs_11 rfl rfl r
theorem tX3_governs_12 {i : Nat} {vs : List Value} {v : Value} (ha : At h i (.inr (2, vs))) (hv : vs[0]? = some v) (r : RQ G mX3_governs d 15 [x0, x1, x2, x3] (v :: S) (h) P) : RQ G mX3_governs d 12 [x0, x1, x2, x3] (.ref i :: S) h P := q_get (M := mX3_governs) (pc := 12) (kf := 0) dX3_governs_12 (show CL[2]? = some (RX3, TX3, 5) from rfl) inA3 (by decide) rfl w199 ha hv r
theorem tX3_governs_15 {v : Int32} (r : RQ G mX3_governs d 16 [x0, x1, x2, some (.int v)] (.int v :: S) (h) P) : RQ G mX3_governs d 15 [x0, x1, x2, some (.int v)] (S) h P := q_iload_n (M := mX3_governs) (pc := 15) dX3_governs_15 rfl rfl r
theorem tX3_governs_16 {a n j b : Nat} {x : Int32} {f : Nat → Option Nat} (ha : At h a (.inl (3, n, .inr (.inr (.inr (.inr f)))))) (hx : x = nI j) (hj : j < n) (hn : n < 2147483648) (hf : f j = some b) (r : RQ G mX3_governs d 17 [x0, x1, x2, x3] (.ref b :: S) (h) P) : RQ G mX3_governs d 16 [x0, x1, x2, x3] (.int x :: .ref a :: S) h P := q_aald3 (M := mX3_governs) (pc := 16) dX3_governs_16 ha hx hj hn (by rw [hf]; exact r)
theorem tX3_governs_17 {i : Nat} {vs : List Value} {v : Value} (ha : At h i (.inr (3, vs))) (hv : vs[4]? = some v) (r : RQ G mX3_governs d 20 [x0, x1, x2, x3] (v :: S) (h) P) : RQ G mX3_governs d 17 [x0, x1, x2, x3] (.ref i :: S) h P := q_getN (M := mX3_governs) (pc := 17) (kf := 4) dX3_governs_17 (show CL[3]? = some (RX4, TX4, 10) from rfl) inA4 (by decide) rfl v162 ha hv r
theorem tX3_governs_20 {x y : Int32} (r : RQ G mX3_governs d 21 [x0, x1, x2, x3] (.int (x + y) :: S) (h) P) : RQ G mX3_governs d 20 [x0, x1, x2, x3] (.int y :: .int x :: S) h P := q_iadd (M := mX3_governs) (pc := 20) dX3_governs_20 r
theorem tX3_governs_21 {v : Int32} (ho : ok1 x1 = true := by rfl) (r : RQ G mX3_governs d 22 [x0, x1, some (.int v), x3] (S) (h) P) : RQ G mX3_governs d 21 [x0, x1, x2, x3] (.int v :: S) h P := q_istore_n (M := mX3_governs) (pc := 21) dX3_governs_21 rfl (Nat.le_of_ble_eq_true rfl) ho r
theorem tX3_governs_22 {v : Int32} (ho : ok1 x2 = true := by rfl) (r : RQ G mX3_governs d 25 [x0, x1, x2, some (.int (v + (nI 1)))] (S) (h) P) : RQ G mX3_governs d 22 [x0, x1, x2, some (.int v)] (S) h P := q_iinc (M := mX3_governs) (pc := 22) dX3_governs_22 rfl (congrArg (v + ·) (show Int32.ofInt (1) = (nI 1) by decide)) (Nat.le_of_ble_eq_true rfl) ho r
theorem tX3_governs_25 (r : RQ G mX3_governs d 4 [x0, x1, x2, x3] S h P) : RQ G mX3_governs d 25 [x0, x1, x2, x3] (S) h P := q_goto (M := mX3_governs) (pc := 25) dX3_governs_25 (by decide) r
theorem tX3_governs_28 {k : Nat} (r : RQ G mX3_governs d 29 [some (.ref k), x1, x2, x3] (.ref k :: S) (h) P) : RQ G mX3_governs d 28 [some (.ref k), x1, x2, x3] (S) h P := q_aload_n (M := mX3_governs) (pc := 28) (r0 := some k) dX3_governs_28 rfl rfl r
theorem tX3_governs_29 {v : Int32} (r : RQ G mX3_governs d 30 [x0, some (.int v), x2, x3] (.int v :: S) (h) P) : RQ G mX3_governs d 29 [x0, some (.int v), x2, x3] (S) h P := q_iload_n (M := mX3_governs) (pc := 29) dX3_governs_29 rfl rfl r
theorem tX3_governs_30 {b d2 : Nat} {vs : List Value} {a0 : Int32} {Q : Int32 → AH → Prop} (hd : d2 + 1 ≤ d) (ha : At h b (.inr (2, vs))) (call : RQ G mX3_allSeats d2 0 [some (.ref b), some (.int a0), none, none] [] h (Ri Q)) (k : ∀ x h1, Q x h1 → RQ G mX3_governs d 33 [x0, x1, x2, x3] (.int x :: S) h1 P) (hst : (S.map fun v => v.category).sum ≤ 8 := by exact Nat.le_of_ble_eq_true rfl)  : RQ G mX3_governs d 30 [x0, x1, x2, x3] (.int a0 :: .ref b :: S) h P := q_callV (M := mX3_governs) (pc := 30) (M2 := mX3_allSeats) (As := [.int a0]) (n := 1) dX3_governs_30 rfl ⟨by decide, by decide, by decide, rfl⟩ rfl w552 w537 w538 w46 w539 (show CL[2]? = some (RX3, TX3, 5) from rfl) hd (by decide) (Nat.le_of_ble_eq_true rfl) rfl ha hst call (callk_i k)
theorem tX3_governs_33 (r : RQ G mX3_governs d 34 [x0, x1, x2, x3] (.int (nI 2) :: S) (h) P) : RQ G mX3_governs d 33 [x0, x1, x2, x3] (S) h P := q_iconst (M := mX3_governs) (pc := 33) dX3_governs_33 (by decide) r
theorem tX3_governs_34 {x y : Int32} (r : RQ G mX3_governs d 35 [x0, x1, x2, x3] (.int (x * y) :: S) (h) P) : RQ G mX3_governs d 34 [x0, x1, x2, x3] (.int y :: .int x :: S) h P := q_imul (M := mX3_governs) (pc := 34) dX3_governs_34 r
theorem tX3_governs_35 {v : Int32} (r : RQ G mX3_governs d 36 [x0, x1, some (.int v), x3] (.int v :: S) (h) P) : RQ G mX3_governs d 35 [x0, x1, some (.int v), x3] (S) h P := q_iload_n (M := mX3_governs) (pc := 35) dX3_governs_35 rfl rfl r
theorem tX3_governs_36 {x y : Int32} (kt : x ≤ y → RQ G mX3_governs d 43 [x0, x1, x2, x3] S h P) (kf : ¬ x ≤ y → RQ G mX3_governs d 39 [x0, x1, x2, x3] S h P) : RQ G mX3_governs d 36 [x0, x1, x2, x3] (.int y :: .int x :: S) h P := q_icmp_le (M := mX3_governs) (pc := 36) dX3_governs_36 (by decide) kt kf
theorem tX3_governs_39 (r : RQ G mX3_governs d 40 [x0, x1, x2, x3] (.int (nI 1) :: S) (h) P) : RQ G mX3_governs d 39 [x0, x1, x2, x3] (S) h P := q_iconst (M := mX3_governs) (pc := 39) dX3_governs_39 (by decide) r
theorem tX3_governs_40 (r : RQ G mX3_governs d 44 [x0, x1, x2, x3] S h P) : RQ G mX3_governs d 40 [x0, x1, x2, x3] (S) h P := q_goto (M := mX3_governs) (pc := 40) dX3_governs_40 (by decide) r
theorem tX3_governs_43 (r : RQ G mX3_governs d 44 [x0, x1, x2, x3] (.int (nI 0) :: S) (h) P) : RQ G mX3_governs d 43 [x0, x1, x2, x3] (S) h P := q_iconst (M := mX3_governs) (pc := 43) dX3_governs_43 (by decide) r
theorem tX3_governs_44 {x : Int32} (hb : x = nI 0 ∨ x = nI 1) (hP : P (.inl (some (.int x))) h) : RQ G mX3_governs d 44 [x0, x1, x2, x3] ([.int x]) h P := q_ireturn (M := mX3_governs) (pc := 44) (ty := .boolean) dX3_governs_44 rfl (nar_bool hb) hP
end T
theorem dX3_mayFollow_0 : decode cX3_mayFollow 0 = .ok (.iload_n 2, 1) := by decide +kernel
theorem dX3_mayFollow_1 : decode cX3_mayFollow 1 = .ok (.istore_n 3, 1) := by decide +kernel
theorem dX3_mayFollow_2 : decode cX3_mayFollow 2 = .ok (.iconst 0, 1) := by decide +kernel
theorem dX3_mayFollow_3 : decode cX3_mayFollow 3 = .ok (.istore 4, 2) := by decide +kernel
theorem dX3_mayFollow_5 : decode cX3_mayFollow 5 = .ok (.iload 4, 2) := by decide +kernel
theorem dX3_mayFollow_7 : decode cX3_mayFollow 7 = .ok (.bipush 6, 2) := by decide +kernel
theorem dX3_mayFollow_9 : decode cX3_mayFollow 9 = .ok (.if_icmp .ge 28, 3) := by decide +kernel
theorem dX3_mayFollow_12 : decode cX3_mayFollow 12 = .ok (.iload_n 3, 1) := by decide +kernel
theorem dX3_mayFollow_13 : decode cX3_mayFollow 13 = .ok (.iconst (-1), 1) := by decide +kernel
theorem dX3_mayFollow_14 : decode cX3_mayFollow 14 = .ok (.if_icmp .eq 23, 3) := by decide +kernel
theorem dX3_mayFollow_17 : decode cX3_mayFollow 17 = .ok (.iload_n 3, 1) := by decide +kernel
theorem dX3_mayFollow_18 : decode cX3_mayFollow 18 = .ok (.iload_n 1, 1) := by decide +kernel
theorem dX3_mayFollow_19 : decode cX3_mayFollow 19 = .ok (.if_icmp .ne 5, 3) := by decide +kernel
theorem dX3_mayFollow_22 : decode cX3_mayFollow 22 = .ok (.iconst 0, 1) := by decide +kernel
theorem dX3_mayFollow_23 : decode cX3_mayFollow 23 = .ok (.ireturn, 1) := by decide +kernel
theorem dX3_mayFollow_24 : decode cX3_mayFollow 24 = .ok (.aload_n 0, 1) := by decide +kernel
theorem dX3_mayFollow_25 : decode cX3_mayFollow 25 = .ok (.getfield 21, 3) := by decide +kernel
theorem dX3_mayFollow_28 : decode cX3_mayFollow 28 = .ok (.iload_n 3, 1) := by decide +kernel
theorem dX3_mayFollow_29 : decode cX3_mayFollow 29 = .ok (.iaload, 1) := by decide +kernel
theorem dX3_mayFollow_30 : decode cX3_mayFollow 30 = .ok (.istore_n 3, 1) := by decide +kernel
theorem dX3_mayFollow_31 : decode cX3_mayFollow 31 = .ok (.iinc 4 1, 3) := by decide +kernel
theorem dX3_mayFollow_34 : decode cX3_mayFollow 34 = .ok (.goto (-29), 3) := by decide +kernel
theorem dX3_mayFollow_37 : decode cX3_mayFollow 37 = .ok (.iconst 1, 1) := by decide +kernel
theorem dX3_mayFollow_38 : decode cX3_mayFollow 38 = .ok (.ireturn, 1) := by decide +kernel
section T
variable {G : GT} {d : Nat} {S : List Value} {h : AH} {P : OC → AH → Prop} {x0 x1 x2 x3 x4 x5 x6 x7 x8 x9 x10 x11 x12 x13 x14 x15 : Option Value}
theorem tX3_mayFollow_0 {v : Int32} (r : RQ G mX3_mayFollow d 1 [x0, x1, some (.int v), x3, x4] (.int v :: S) (h) P) : RQ G mX3_mayFollow d 0 [x0, x1, some (.int v), x3, x4] (S) h P := q_iload_n (M := mX3_mayFollow) (pc := 0) dX3_mayFollow_0 rfl rfl r
theorem tX3_mayFollow_1 {v : Int32} (ho : ok1 x2 = true := by rfl) (r : RQ G mX3_mayFollow d 2 [x0, x1, x2, some (.int v), x4] (S) (h) P) : RQ G mX3_mayFollow d 1 [x0, x1, x2, x3, x4] (.int v :: S) h P := q_istore_n (M := mX3_mayFollow) (pc := 1) dX3_mayFollow_1 rfl (Nat.le_of_ble_eq_true rfl) ho r
theorem tX3_mayFollow_2 (r : RQ G mX3_mayFollow d 3 [x0, x1, x2, x3, x4] (.int (nI 0) :: S) (h) P) : RQ G mX3_mayFollow d 2 [x0, x1, x2, x3, x4] (S) h P := q_iconst (M := mX3_mayFollow) (pc := 2) dX3_mayFollow_2 (by decide) r
theorem tX3_mayFollow_3 {v : Int32} (ho : ok1 x3 = true := by rfl) (r : RQ G mX3_mayFollow d 5 [x0, x1, x2, x3, some (.int v)] (S) (h) P) : RQ G mX3_mayFollow d 3 [x0, x1, x2, x3, x4] (.int v :: S) h P := q_istore (M := mX3_mayFollow) (pc := 3) dX3_mayFollow_3 (Nat.le_of_ble_eq_true rfl) ho r
theorem tX3_mayFollow_5 {v : Int32} (r : RQ G mX3_mayFollow d 7 [x0, x1, x2, x3, some (.int v)] (.int v :: S) (h) P) : RQ G mX3_mayFollow d 5 [x0, x1, x2, x3, some (.int v)] (S) h P := q_iload (M := mX3_mayFollow) (pc := 5) dX3_mayFollow_5 rfl r
theorem tX3_mayFollow_7 (r : RQ G mX3_mayFollow d 9 [x0, x1, x2, x3, x4] (.int (nI 6) :: S) (h) P) : RQ G mX3_mayFollow d 7 [x0, x1, x2, x3, x4] (S) h P := q_bipush (M := mX3_mayFollow) (pc := 7) dX3_mayFollow_7 (by decide) r
theorem tX3_mayFollow_9 {x y : Int32} (kt : y ≤ x → RQ G mX3_mayFollow d 37 [x0, x1, x2, x3, x4] S h P) (kf : ¬ y ≤ x → RQ G mX3_mayFollow d 12 [x0, x1, x2, x3, x4] S h P) : RQ G mX3_mayFollow d 9 [x0, x1, x2, x3, x4] (.int y :: .int x :: S) h P := q_icmp_ge (M := mX3_mayFollow) (pc := 9) dX3_mayFollow_9 (by decide) kt kf
theorem tX3_mayFollow_12 {v : Int32} (r : RQ G mX3_mayFollow d 13 [x0, x1, x2, some (.int v), x4] (.int v :: S) (h) P) : RQ G mX3_mayFollow d 12 [x0, x1, x2, some (.int v), x4] (S) h P := q_iload_n (M := mX3_mayFollow) (pc := 12) dX3_mayFollow_12 rfl rfl r
theorem tX3_mayFollow_13 (r : RQ G mX3_mayFollow d 14 [x0, x1, x2, x3, x4] (.int (-1) :: S) (h) P) : RQ G mX3_mayFollow d 13 [x0, x1, x2, x3, x4] (S) h P := q_iconst (M := mX3_mayFollow) (pc := 13) dX3_mayFollow_13 (by decide) r
theorem tX3_mayFollow_14 {x y : Int32} (kt : x = y → RQ G mX3_mayFollow d 37 [x0, x1, x2, x3, x4] S h P) (kf : ¬ x = y → RQ G mX3_mayFollow d 17 [x0, x1, x2, x3, x4] S h P) : RQ G mX3_mayFollow d 14 [x0, x1, x2, x3, x4] (.int y :: .int x :: S) h P := q_icmp_eq (M := mX3_mayFollow) (pc := 14) dX3_mayFollow_14 (by decide) kt kf
theorem tX3_mayFollow_17 {v : Int32} (r : RQ G mX3_mayFollow d 18 [x0, x1, x2, some (.int v), x4] (.int v :: S) (h) P) : RQ G mX3_mayFollow d 17 [x0, x1, x2, some (.int v), x4] (S) h P := q_iload_n (M := mX3_mayFollow) (pc := 17) dX3_mayFollow_17 rfl rfl r
theorem tX3_mayFollow_18 {v : Int32} (r : RQ G mX3_mayFollow d 19 [x0, some (.int v), x2, x3, x4] (.int v :: S) (h) P) : RQ G mX3_mayFollow d 18 [x0, some (.int v), x2, x3, x4] (S) h P := q_iload_n (M := mX3_mayFollow) (pc := 18) dX3_mayFollow_18 rfl rfl r
theorem tX3_mayFollow_19 {x y : Int32} (kt : ¬ x = y → RQ G mX3_mayFollow d 24 [x0, x1, x2, x3, x4] S h P) (kf : x = y → RQ G mX3_mayFollow d 22 [x0, x1, x2, x3, x4] S h P) : RQ G mX3_mayFollow d 19 [x0, x1, x2, x3, x4] (.int y :: .int x :: S) h P := q_icmp_ne (M := mX3_mayFollow) (pc := 19) dX3_mayFollow_19 (by decide) kt kf
theorem tX3_mayFollow_22 (r : RQ G mX3_mayFollow d 23 [x0, x1, x2, x3, x4] (.int (nI 0) :: S) (h) P) : RQ G mX3_mayFollow d 22 [x0, x1, x2, x3, x4] (S) h P := q_iconst (M := mX3_mayFollow) (pc := 22) dX3_mayFollow_22 (by decide) r
theorem tX3_mayFollow_23 {x : Int32} (hb : x = nI 0 ∨ x = nI 1) (hP : P (.inl (some (.int x))) h) : RQ G mX3_mayFollow d 23 [x0, x1, x2, x3, x4] ([.int x]) h P := q_ireturn (M := mX3_mayFollow) (pc := 23) (ty := .boolean) dX3_mayFollow_23 rfl (nar_bool hb) hP
theorem tX3_mayFollow_24 {k : Nat} (r : RQ G mX3_mayFollow d 25 [some (.ref k), x1, x2, x3, x4] (.ref k :: S) (h) P) : RQ G mX3_mayFollow d 24 [some (.ref k), x1, x2, x3, x4] (S) h P := q_aload_n (M := mX3_mayFollow) (pc := 24) (r0 := some k) dX3_mayFollow_24 rfl rfl r
theorem tX3_mayFollow_25 {i : Nat} {vs : List Value} {v : Value} (ha : At h i (.inr (2, vs))) (hv : vs[2]? = some v) (r : RQ G mX3_mayFollow d 28 [x0, x1, x2, x3, x4] (v :: S) (h) P) : RQ G mX3_mayFollow d 25 [x0, x1, x2, x3, x4] (.ref i :: S) h P := q_get (M := mX3_mayFollow) (pc := 25) (kf := 2) dX3_mayFollow_25 (show CL[2]? = some (RX3, TX3, 5) from rfl) inA3 (by decide) rfl w207 ha hv r
theorem tX3_mayFollow_28 {v : Int32} (r : RQ G mX3_mayFollow d 29 [x0, x1, x2, some (.int v), x4] (.int v :: S) (h) P) : RQ G mX3_mayFollow d 28 [x0, x1, x2, some (.int v), x4] (S) h P := q_iload_n (M := mX3_mayFollow) (pc := 28) dX3_mayFollow_28 rfl rfl r
theorem tX3_mayFollow_29 {a n j : Nat} {x : Int32} {f : Nat → Int32} (ha : At h a (.inl (0, n, .inl f))) (hx : x = nI j) (hj : j < n) (hn : n < 2147483648) (r : RQ G mX3_mayFollow d 30 [x0, x1, x2, x3, x4] (.int (f j) :: S) (h) P) : RQ G mX3_mayFollow d 29 [x0, x1, x2, x3, x4] (.int x :: .ref a :: S) h P := q_iald (M := mX3_mayFollow) (pc := 29) dX3_mayFollow_29 ha hx hj hn r
theorem tX3_mayFollow_30 {v : Int32} (ho : ok1 x2 = true := by rfl) (r : RQ G mX3_mayFollow d 31 [x0, x1, x2, some (.int v), x4] (S) (h) P) : RQ G mX3_mayFollow d 30 [x0, x1, x2, x3, x4] (.int v :: S) h P := q_istore_n (M := mX3_mayFollow) (pc := 30) dX3_mayFollow_30 rfl (Nat.le_of_ble_eq_true rfl) ho r
theorem tX3_mayFollow_31 {v : Int32} (ho : ok1 x3 = true := by rfl) (r : RQ G mX3_mayFollow d 34 [x0, x1, x2, x3, some (.int (v + (nI 1)))] (S) (h) P) : RQ G mX3_mayFollow d 31 [x0, x1, x2, x3, some (.int v)] (S) h P := q_iinc (M := mX3_mayFollow) (pc := 31) dX3_mayFollow_31 rfl (congrArg (v + ·) (show Int32.ofInt (1) = (nI 1) by decide)) (Nat.le_of_ble_eq_true rfl) ho r
theorem tX3_mayFollow_34 (r : RQ G mX3_mayFollow d 5 [x0, x1, x2, x3, x4] S h P) : RQ G mX3_mayFollow d 34 [x0, x1, x2, x3, x4] (S) h P := q_goto (M := mX3_mayFollow) (pc := 34) dX3_mayFollow_34 (by decide) r
theorem tX3_mayFollow_37 (r : RQ G mX3_mayFollow d 38 [x0, x1, x2, x3, x4] (.int (nI 1) :: S) (h) P) : RQ G mX3_mayFollow d 37 [x0, x1, x2, x3, x4] (S) h P := q_iconst (M := mX3_mayFollow) (pc := 37) dX3_mayFollow_37 (by decide) r
theorem tX3_mayFollow_38 {x : Int32} (hb : x = nI 0 ∨ x = nI 1) (hP : P (.inl (some (.int x))) h) : RQ G mX3_mayFollow d 38 [x0, x1, x2, x3, x4] ([.int x]) h P := q_ireturn (M := mX3_mayFollow) (pc := 38) (ty := .boolean) dX3_mayFollow_38 rfl (nar_bool hb) hP
end T
theorem dX3_follow_0 : decode cX3_follow 0 = .ok (.aload_n 0, 1) := by decide +kernel
theorem dX3_follow_1 : decode cX3_follow 1 = .ok (.getfield 21, 3) := by decide +kernel
theorem dX3_follow_4 : decode cX3_follow 4 = .ok (.iload_n 1, 1) := by decide +kernel
theorem dX3_follow_5 : decode cX3_follow 5 = .ok (.iload_n 2, 1) := by decide +kernel
theorem dX3_follow_6 : decode cX3_follow 6 = .ok (.iastore, 1) := by decide +kernel
theorem dX3_follow_7 : decode cX3_follow 7 = .ok (.iconst 0, 1) := by decide +kernel
theorem dX3_follow_8 : decode cX3_follow 8 = .ok (.istore_n 3, 1) := by decide +kernel
theorem dX3_follow_9 : decode cX3_follow 9 = .ok (.iload_n 3, 1) := by decide +kernel
theorem dX3_follow_10 : decode cX3_follow 10 = .ok (.bipush 6, 2) := by decide +kernel
theorem dX3_follow_12 : decode cX3_follow 12 = .ok (.if_icmp .ge 56, 3) := by decide +kernel
theorem dX3_follow_15 : decode cX3_follow 15 = .ok (.iload_n 3, 1) := by decide +kernel
theorem dX3_follow_16 : decode cX3_follow 16 = .ok (.istore 4, 2) := by decide +kernel
theorem dX3_follow_18 : decode cX3_follow 18 = .ok (.iconst 0, 1) := by decide +kernel
theorem dX3_follow_19 : decode cX3_follow 19 = .ok (.istore 5, 2) := by decide +kernel
theorem dX3_follow_21 : decode cX3_follow 21 = .ok (.iload 5, 2) := by decide +kernel
theorem dX3_follow_23 : decode cX3_follow 23 = .ok (.bipush 6, 2) := by decide +kernel
theorem dX3_follow_25 : decode cX3_follow 25 = .ok (.if_icmp .ge 29, 3) := by decide +kernel
theorem dX3_follow_28 : decode cX3_follow 28 = .ok (.aload_n 0, 1) := by decide +kernel
theorem dX3_follow_29 : decode cX3_follow 29 = .ok (.getfield 21, 3) := by decide +kernel
theorem dX3_follow_32 : decode cX3_follow 32 = .ok (.iload 4, 2) := by decide +kernel
theorem dX3_follow_34 : decode cX3_follow 34 = .ok (.iaload, 1) := by decide +kernel
theorem dX3_follow_35 : decode cX3_follow 35 = .ok (.iconst (-1), 1) := by decide +kernel
theorem dX3_follow_36 : decode cX3_follow 36 = .ok (.if_icmp .eq 18, 3) := by decide +kernel
theorem dX3_follow_39 : decode cX3_follow 39 = .ok (.aload_n 0, 1) := by decide +kernel
theorem dX3_follow_40 : decode cX3_follow 40 = .ok (.getfield 21, 3) := by decide +kernel
theorem dX3_follow_43 : decode cX3_follow 43 = .ok (.iload 4, 2) := by decide +kernel
theorem dX3_follow_45 : decode cX3_follow 45 = .ok (.iaload, 1) := by decide +kernel
theorem dX3_follow_46 : decode cX3_follow 46 = .ok (.istore 4, 2) := by decide +kernel
theorem dX3_follow_48 : decode cX3_follow 48 = .ok (.iinc 5 1, 3) := by decide +kernel
theorem dX3_follow_51 : decode cX3_follow 51 = .ok (.goto (-30), 3) := by decide +kernel
theorem dX3_follow_54 : decode cX3_follow 54 = .ok (.aload_n 0, 1) := by decide +kernel
theorem dX3_follow_55 : decode cX3_follow 55 = .ok (.getfield 24, 3) := by decide +kernel
theorem dX3_follow_58 : decode cX3_follow 58 = .ok (.iload_n 3, 1) := by decide +kernel
theorem dX3_follow_59 : decode cX3_follow 59 = .ok (.iload 4, 2) := by decide +kernel
theorem dX3_follow_61 : decode cX3_follow 61 = .ok (.iastore, 1) := by decide +kernel
theorem dX3_follow_62 : decode cX3_follow 62 = .ok (.iinc 3 1, 3) := by decide +kernel
theorem dX3_follow_65 : decode cX3_follow 65 = .ok (.goto (-56), 3) := by decide +kernel
theorem dX3_follow_68 : decode cX3_follow 68 = .ok (.iconst 0, 1) := by decide +kernel
theorem dX3_follow_69 : decode cX3_follow 69 = .ok (.istore_n 3, 1) := by decide +kernel
theorem dX3_follow_70 : decode cX3_follow 70 = .ok (.iload_n 3, 1) := by decide +kernel
theorem dX3_follow_71 : decode cX3_follow 71 = .ok (.bipush 8, 2) := by decide +kernel
theorem dX3_follow_73 : decode cX3_follow 73 = .ok (.if_icmp .ge 19, 3) := by decide +kernel
theorem dX3_follow_76 : decode cX3_follow 76 = .ok (.aload_n 0, 1) := by decide +kernel
theorem dX3_follow_77 : decode cX3_follow 77 = .ok (.getfield 11, 3) := by decide +kernel
theorem dX3_follow_80 : decode cX3_follow 80 = .ok (.iload_n 3, 1) := by decide +kernel
theorem dX3_follow_81 : decode cX3_follow 81 = .ok (.aaload, 1) := by decide +kernel
theorem dX3_follow_82 : decode cX3_follow 82 = .ok (.iconst 0, 1) := by decide +kernel
theorem dX3_follow_83 : decode cX3_follow 83 = .ok (.putfield 53, 3) := by decide +kernel
theorem dX3_follow_86 : decode cX3_follow 86 = .ok (.iinc 3 1, 3) := by decide +kernel
theorem dX3_follow_89 : decode cX3_follow 89 = .ok (.goto (-19), 3) := by decide +kernel
theorem dX3_follow_92 : decode cX3_follow 92 = .ok (.return_, 1) := by decide +kernel
section T
variable {G : GT} {d : Nat} {S : List Value} {h : AH} {P : OC → AH → Prop} {x0 x1 x2 x3 x4 x5 x6 x7 x8 x9 x10 x11 x12 x13 x14 x15 : Option Value}
theorem tX3_follow_0 {k : Nat} (r : RQ G mX3_follow d 1 [some (.ref k), x1, x2, x3, x4, x5] (.ref k :: S) (h) P) : RQ G mX3_follow d 0 [some (.ref k), x1, x2, x3, x4, x5] (S) h P := q_aload_n (M := mX3_follow) (pc := 0) (r0 := some k) dX3_follow_0 rfl rfl r
theorem tX3_follow_1 {i : Nat} {vs : List Value} {v : Value} (ha : At h i (.inr (2, vs))) (hv : vs[2]? = some v) (r : RQ G mX3_follow d 4 [x0, x1, x2, x3, x4, x5] (v :: S) (h) P) : RQ G mX3_follow d 1 [x0, x1, x2, x3, x4, x5] (.ref i :: S) h P := q_get (M := mX3_follow) (pc := 1) (kf := 2) dX3_follow_1 (show CL[2]? = some (RX3, TX3, 5) from rfl) inA3 (by decide) rfl w207 ha hv r
theorem tX3_follow_4 {v : Int32} (r : RQ G mX3_follow d 5 [x0, some (.int v), x2, x3, x4, x5] (.int v :: S) (h) P) : RQ G mX3_follow d 4 [x0, some (.int v), x2, x3, x4, x5] (S) h P := q_iload_n (M := mX3_follow) (pc := 4) dX3_follow_4 rfl rfl r
theorem tX3_follow_5 {v : Int32} (r : RQ G mX3_follow d 6 [x0, x1, some (.int v), x3, x4, x5] (.int v :: S) (h) P) : RQ G mX3_follow d 5 [x0, x1, some (.int v), x3, x4, x5] (S) h P := q_iload_n (M := mX3_follow) (pc := 5) dX3_follow_5 rfl rfl r
theorem tX3_follow_6 {a n j : Nat} {x : Int32} {v : Int32} {f : Nat → Int32} (ha : At h a (.inl (0, n, .inl f))) (hx : x = nI j) (hj : j < n) (hn : n < 2147483648) (r : RQ G mX3_follow d 7 [x0, x1, x2, x3, x4, x5] (S) (hset h a (.inl (0, n, .inl (upd f j v)))) P) : RQ G mX3_follow d 6 [x0, x1, x2, x3, x4, x5] (.int v :: .int x :: .ref a :: S) h P := q_iast (M := mX3_follow) (pc := 6) dX3_follow_6 ha hx hj hn r
theorem tX3_follow_7 (r : RQ G mX3_follow d 8 [x0, x1, x2, x3, x4, x5] (.int (nI 0) :: S) (h) P) : RQ G mX3_follow d 7 [x0, x1, x2, x3, x4, x5] (S) h P := q_iconst (M := mX3_follow) (pc := 7) dX3_follow_7 (by decide) r
theorem tX3_follow_8 {v : Int32} (ho : ok1 x2 = true := by rfl) (r : RQ G mX3_follow d 9 [x0, x1, x2, some (.int v), x4, x5] (S) (h) P) : RQ G mX3_follow d 8 [x0, x1, x2, x3, x4, x5] (.int v :: S) h P := q_istore_n (M := mX3_follow) (pc := 8) dX3_follow_8 rfl (Nat.le_of_ble_eq_true rfl) ho r
theorem tX3_follow_9 {v : Int32} (r : RQ G mX3_follow d 10 [x0, x1, x2, some (.int v), x4, x5] (.int v :: S) (h) P) : RQ G mX3_follow d 9 [x0, x1, x2, some (.int v), x4, x5] (S) h P := q_iload_n (M := mX3_follow) (pc := 9) dX3_follow_9 rfl rfl r
theorem tX3_follow_10 (r : RQ G mX3_follow d 12 [x0, x1, x2, x3, x4, x5] (.int (nI 6) :: S) (h) P) : RQ G mX3_follow d 10 [x0, x1, x2, x3, x4, x5] (S) h P := q_bipush (M := mX3_follow) (pc := 10) dX3_follow_10 (by decide) r
theorem tX3_follow_12 {x y : Int32} (kt : y ≤ x → RQ G mX3_follow d 68 [x0, x1, x2, x3, x4, x5] S h P) (kf : ¬ y ≤ x → RQ G mX3_follow d 15 [x0, x1, x2, x3, x4, x5] S h P) : RQ G mX3_follow d 12 [x0, x1, x2, x3, x4, x5] (.int y :: .int x :: S) h P := q_icmp_ge (M := mX3_follow) (pc := 12) dX3_follow_12 (by decide) kt kf
theorem tX3_follow_15 {v : Int32} (r : RQ G mX3_follow d 16 [x0, x1, x2, some (.int v), x4, x5] (.int v :: S) (h) P) : RQ G mX3_follow d 15 [x0, x1, x2, some (.int v), x4, x5] (S) h P := q_iload_n (M := mX3_follow) (pc := 15) dX3_follow_15 rfl rfl r
theorem tX3_follow_16 {v : Int32} (ho : ok1 x3 = true := by rfl) (r : RQ G mX3_follow d 18 [x0, x1, x2, x3, some (.int v), x5] (S) (h) P) : RQ G mX3_follow d 16 [x0, x1, x2, x3, x4, x5] (.int v :: S) h P := q_istore (M := mX3_follow) (pc := 16) dX3_follow_16 (Nat.le_of_ble_eq_true rfl) ho r
theorem tX3_follow_18 (r : RQ G mX3_follow d 19 [x0, x1, x2, x3, x4, x5] (.int (nI 0) :: S) (h) P) : RQ G mX3_follow d 18 [x0, x1, x2, x3, x4, x5] (S) h P := q_iconst (M := mX3_follow) (pc := 18) dX3_follow_18 (by decide) r
theorem tX3_follow_19 {v : Int32} (ho : ok1 x4 = true := by rfl) (r : RQ G mX3_follow d 21 [x0, x1, x2, x3, x4, some (.int v)] (S) (h) P) : RQ G mX3_follow d 19 [x0, x1, x2, x3, x4, x5] (.int v :: S) h P := q_istore (M := mX3_follow) (pc := 19) dX3_follow_19 (Nat.le_of_ble_eq_true rfl) ho r
theorem tX3_follow_21 {v : Int32} (r : RQ G mX3_follow d 23 [x0, x1, x2, x3, x4, some (.int v)] (.int v :: S) (h) P) : RQ G mX3_follow d 21 [x0, x1, x2, x3, x4, some (.int v)] (S) h P := q_iload (M := mX3_follow) (pc := 21) dX3_follow_21 rfl r
theorem tX3_follow_23 (r : RQ G mX3_follow d 25 [x0, x1, x2, x3, x4, x5] (.int (nI 6) :: S) (h) P) : RQ G mX3_follow d 23 [x0, x1, x2, x3, x4, x5] (S) h P := q_bipush (M := mX3_follow) (pc := 23) dX3_follow_23 (by decide) r
theorem tX3_follow_25 {x y : Int32} (kt : y ≤ x → RQ G mX3_follow d 54 [x0, x1, x2, x3, x4, x5] S h P) (kf : ¬ y ≤ x → RQ G mX3_follow d 28 [x0, x1, x2, x3, x4, x5] S h P) : RQ G mX3_follow d 25 [x0, x1, x2, x3, x4, x5] (.int y :: .int x :: S) h P := q_icmp_ge (M := mX3_follow) (pc := 25) dX3_follow_25 (by decide) kt kf
theorem tX3_follow_28 {k : Nat} (r : RQ G mX3_follow d 29 [some (.ref k), x1, x2, x3, x4, x5] (.ref k :: S) (h) P) : RQ G mX3_follow d 28 [some (.ref k), x1, x2, x3, x4, x5] (S) h P := q_aload_n (M := mX3_follow) (pc := 28) (r0 := some k) dX3_follow_28 rfl rfl r
theorem tX3_follow_29 {i : Nat} {vs : List Value} {v : Value} (ha : At h i (.inr (2, vs))) (hv : vs[2]? = some v) (r : RQ G mX3_follow d 32 [x0, x1, x2, x3, x4, x5] (v :: S) (h) P) : RQ G mX3_follow d 29 [x0, x1, x2, x3, x4, x5] (.ref i :: S) h P := q_get (M := mX3_follow) (pc := 29) (kf := 2) dX3_follow_29 (show CL[2]? = some (RX3, TX3, 5) from rfl) inA3 (by decide) rfl w207 ha hv r
theorem tX3_follow_32 {v : Int32} (r : RQ G mX3_follow d 34 [x0, x1, x2, x3, some (.int v), x5] (.int v :: S) (h) P) : RQ G mX3_follow d 32 [x0, x1, x2, x3, some (.int v), x5] (S) h P := q_iload (M := mX3_follow) (pc := 32) dX3_follow_32 rfl r
theorem tX3_follow_34 {a n j : Nat} {x : Int32} {f : Nat → Int32} (ha : At h a (.inl (0, n, .inl f))) (hx : x = nI j) (hj : j < n) (hn : n < 2147483648) (r : RQ G mX3_follow d 35 [x0, x1, x2, x3, x4, x5] (.int (f j) :: S) (h) P) : RQ G mX3_follow d 34 [x0, x1, x2, x3, x4, x5] (.int x :: .ref a :: S) h P := q_iald (M := mX3_follow) (pc := 34) dX3_follow_34 ha hx hj hn r
theorem tX3_follow_35 (r : RQ G mX3_follow d 36 [x0, x1, x2, x3, x4, x5] (.int (-1) :: S) (h) P) : RQ G mX3_follow d 35 [x0, x1, x2, x3, x4, x5] (S) h P := q_iconst (M := mX3_follow) (pc := 35) dX3_follow_35 (by decide) r
theorem tX3_follow_36 {x y : Int32} (kt : x = y → RQ G mX3_follow d 54 [x0, x1, x2, x3, x4, x5] S h P) (kf : ¬ x = y → RQ G mX3_follow d 39 [x0, x1, x2, x3, x4, x5] S h P) : RQ G mX3_follow d 36 [x0, x1, x2, x3, x4, x5] (.int y :: .int x :: S) h P := q_icmp_eq (M := mX3_follow) (pc := 36) dX3_follow_36 (by decide) kt kf
theorem tX3_follow_39 {k : Nat} (r : RQ G mX3_follow d 40 [some (.ref k), x1, x2, x3, x4, x5] (.ref k :: S) (h) P) : RQ G mX3_follow d 39 [some (.ref k), x1, x2, x3, x4, x5] (S) h P := q_aload_n (M := mX3_follow) (pc := 39) (r0 := some k) dX3_follow_39 rfl rfl r
theorem tX3_follow_40 {i : Nat} {vs : List Value} {v : Value} (ha : At h i (.inr (2, vs))) (hv : vs[2]? = some v) (r : RQ G mX3_follow d 43 [x0, x1, x2, x3, x4, x5] (v :: S) (h) P) : RQ G mX3_follow d 40 [x0, x1, x2, x3, x4, x5] (.ref i :: S) h P := q_get (M := mX3_follow) (pc := 40) (kf := 2) dX3_follow_40 (show CL[2]? = some (RX3, TX3, 5) from rfl) inA3 (by decide) rfl w207 ha hv r
theorem tX3_follow_43 {v : Int32} (r : RQ G mX3_follow d 45 [x0, x1, x2, x3, some (.int v), x5] (.int v :: S) (h) P) : RQ G mX3_follow d 43 [x0, x1, x2, x3, some (.int v), x5] (S) h P := q_iload (M := mX3_follow) (pc := 43) dX3_follow_43 rfl r
theorem tX3_follow_45 {a n j : Nat} {x : Int32} {f : Nat → Int32} (ha : At h a (.inl (0, n, .inl f))) (hx : x = nI j) (hj : j < n) (hn : n < 2147483648) (r : RQ G mX3_follow d 46 [x0, x1, x2, x3, x4, x5] (.int (f j) :: S) (h) P) : RQ G mX3_follow d 45 [x0, x1, x2, x3, x4, x5] (.int x :: .ref a :: S) h P := q_iald (M := mX3_follow) (pc := 45) dX3_follow_45 ha hx hj hn r
theorem tX3_follow_46 {v : Int32} (ho : ok1 x3 = true := by rfl) (r : RQ G mX3_follow d 48 [x0, x1, x2, x3, some (.int v), x5] (S) (h) P) : RQ G mX3_follow d 46 [x0, x1, x2, x3, x4, x5] (.int v :: S) h P := q_istore (M := mX3_follow) (pc := 46) dX3_follow_46 (Nat.le_of_ble_eq_true rfl) ho r
theorem tX3_follow_48 {v : Int32} (ho : ok1 x4 = true := by rfl) (r : RQ G mX3_follow d 51 [x0, x1, x2, x3, x4, some (.int (v + (nI 1)))] (S) (h) P) : RQ G mX3_follow d 48 [x0, x1, x2, x3, x4, some (.int v)] (S) h P := q_iinc (M := mX3_follow) (pc := 48) dX3_follow_48 rfl (congrArg (v + ·) (show Int32.ofInt (1) = (nI 1) by decide)) (Nat.le_of_ble_eq_true rfl) ho r
theorem tX3_follow_51 (r : RQ G mX3_follow d 21 [x0, x1, x2, x3, x4, x5] S h P) : RQ G mX3_follow d 51 [x0, x1, x2, x3, x4, x5] (S) h P := q_goto (M := mX3_follow) (pc := 51) dX3_follow_51 (by decide) r
theorem tX3_follow_54 {k : Nat} (r : RQ G mX3_follow d 55 [some (.ref k), x1, x2, x3, x4, x5] (.ref k :: S) (h) P) : RQ G mX3_follow d 54 [some (.ref k), x1, x2, x3, x4, x5] (S) h P := q_aload_n (M := mX3_follow) (pc := 54) (r0 := some k) dX3_follow_54 rfl rfl r
theorem tX3_follow_55 {i : Nat} {vs : List Value} {v : Value} (ha : At h i (.inr (2, vs))) (hv : vs[3]? = some v) (r : RQ G mX3_follow d 58 [x0, x1, x2, x3, x4, x5] (v :: S) (h) P) : RQ G mX3_follow d 55 [x0, x1, x2, x3, x4, x5] (.ref i :: S) h P := q_get (M := mX3_follow) (pc := 55) (kf := 3) dX3_follow_55 (show CL[2]? = some (RX3, TX3, 5) from rfl) inA3 (by decide) rfl w209 ha hv r
theorem tX3_follow_58 {v : Int32} (r : RQ G mX3_follow d 59 [x0, x1, x2, some (.int v), x4, x5] (.int v :: S) (h) P) : RQ G mX3_follow d 58 [x0, x1, x2, some (.int v), x4, x5] (S) h P := q_iload_n (M := mX3_follow) (pc := 58) dX3_follow_58 rfl rfl r
theorem tX3_follow_59 {v : Int32} (r : RQ G mX3_follow d 61 [x0, x1, x2, x3, some (.int v), x5] (.int v :: S) (h) P) : RQ G mX3_follow d 59 [x0, x1, x2, x3, some (.int v), x5] (S) h P := q_iload (M := mX3_follow) (pc := 59) dX3_follow_59 rfl r
theorem tX3_follow_61 {a n j : Nat} {x : Int32} {v : Int32} {f : Nat → Int32} (ha : At h a (.inl (0, n, .inl f))) (hx : x = nI j) (hj : j < n) (hn : n < 2147483648) (r : RQ G mX3_follow d 62 [x0, x1, x2, x3, x4, x5] (S) (hset h a (.inl (0, n, .inl (upd f j v)))) P) : RQ G mX3_follow d 61 [x0, x1, x2, x3, x4, x5] (.int v :: .int x :: .ref a :: S) h P := q_iast (M := mX3_follow) (pc := 61) dX3_follow_61 ha hx hj hn r
theorem tX3_follow_62 {v : Int32} (ho : ok1 x2 = true := by rfl) (r : RQ G mX3_follow d 65 [x0, x1, x2, some (.int (v + (nI 1))), x4, x5] (S) (h) P) : RQ G mX3_follow d 62 [x0, x1, x2, some (.int v), x4, x5] (S) h P := q_iinc (M := mX3_follow) (pc := 62) dX3_follow_62 rfl (congrArg (v + ·) (show Int32.ofInt (1) = (nI 1) by decide)) (Nat.le_of_ble_eq_true rfl) ho r
theorem tX3_follow_65 (r : RQ G mX3_follow d 9 [x0, x1, x2, x3, x4, x5] S h P) : RQ G mX3_follow d 65 [x0, x1, x2, x3, x4, x5] (S) h P := q_goto (M := mX3_follow) (pc := 65) dX3_follow_65 (by decide) r
theorem tX3_follow_68 (r : RQ G mX3_follow d 69 [x0, x1, x2, x3, x4, x5] (.int (nI 0) :: S) (h) P) : RQ G mX3_follow d 68 [x0, x1, x2, x3, x4, x5] (S) h P := q_iconst (M := mX3_follow) (pc := 68) dX3_follow_68 (by decide) r
theorem tX3_follow_69 {v : Int32} (ho : ok1 x2 = true := by rfl) (r : RQ G mX3_follow d 70 [x0, x1, x2, some (.int v), x4, x5] (S) (h) P) : RQ G mX3_follow d 69 [x0, x1, x2, x3, x4, x5] (.int v :: S) h P := q_istore_n (M := mX3_follow) (pc := 69) dX3_follow_69 rfl (Nat.le_of_ble_eq_true rfl) ho r
theorem tX3_follow_70 {v : Int32} (r : RQ G mX3_follow d 71 [x0, x1, x2, some (.int v), x4, x5] (.int v :: S) (h) P) : RQ G mX3_follow d 70 [x0, x1, x2, some (.int v), x4, x5] (S) h P := q_iload_n (M := mX3_follow) (pc := 70) dX3_follow_70 rfl rfl r
theorem tX3_follow_71 (r : RQ G mX3_follow d 73 [x0, x1, x2, x3, x4, x5] (.int (nI 8) :: S) (h) P) : RQ G mX3_follow d 71 [x0, x1, x2, x3, x4, x5] (S) h P := q_bipush (M := mX3_follow) (pc := 71) dX3_follow_71 (by decide) r
theorem tX3_follow_73 {x y : Int32} (kt : y ≤ x → RQ G mX3_follow d 92 [x0, x1, x2, x3, x4, x5] S h P) (kf : ¬ y ≤ x → RQ G mX3_follow d 76 [x0, x1, x2, x3, x4, x5] S h P) : RQ G mX3_follow d 73 [x0, x1, x2, x3, x4, x5] (.int y :: .int x :: S) h P := q_icmp_ge (M := mX3_follow) (pc := 73) dX3_follow_73 (by decide) kt kf
theorem tX3_follow_76 {k : Nat} (r : RQ G mX3_follow d 77 [some (.ref k), x1, x2, x3, x4, x5] (.ref k :: S) (h) P) : RQ G mX3_follow d 76 [some (.ref k), x1, x2, x3, x4, x5] (S) h P := q_aload_n (M := mX3_follow) (pc := 76) (r0 := some k) dX3_follow_76 rfl rfl r
theorem tX3_follow_77 {i : Nat} {vs : List Value} {v : Value} (ha : At h i (.inr (2, vs))) (hv : vs[0]? = some v) (r : RQ G mX3_follow d 80 [x0, x1, x2, x3, x4, x5] (v :: S) (h) P) : RQ G mX3_follow d 77 [x0, x1, x2, x3, x4, x5] (.ref i :: S) h P := q_get (M := mX3_follow) (pc := 77) (kf := 0) dX3_follow_77 (show CL[2]? = some (RX3, TX3, 5) from rfl) inA3 (by decide) rfl w199 ha hv r
theorem tX3_follow_80 {v : Int32} (r : RQ G mX3_follow d 81 [x0, x1, x2, some (.int v), x4, x5] (.int v :: S) (h) P) : RQ G mX3_follow d 80 [x0, x1, x2, some (.int v), x4, x5] (S) h P := q_iload_n (M := mX3_follow) (pc := 80) dX3_follow_80 rfl rfl r
theorem tX3_follow_81 {a n j b : Nat} {x : Int32} {f : Nat → Option Nat} (ha : At h a (.inl (3, n, .inr (.inr (.inr (.inr f)))))) (hx : x = nI j) (hj : j < n) (hn : n < 2147483648) (hf : f j = some b) (r : RQ G mX3_follow d 82 [x0, x1, x2, x3, x4, x5] (.ref b :: S) (h) P) : RQ G mX3_follow d 81 [x0, x1, x2, x3, x4, x5] (.int x :: .ref a :: S) h P := q_aald3 (M := mX3_follow) (pc := 81) dX3_follow_81 ha hx hj hn (by rw [hf]; exact r)
theorem tX3_follow_82 (r : RQ G mX3_follow d 83 [x0, x1, x2, x3, x4, x5] (.int (nI 0) :: S) (h) P) : RQ G mX3_follow d 82 [x0, x1, x2, x3, x4, x5] (S) h P := q_iconst (M := mX3_follow) (pc := 82) dX3_follow_82 (by decide) r
theorem tX3_follow_83 {i : Nat} {vs : List Value} {v : Int32} (ha : At h i (.inr (3, vs))) (hlen : vs.length = 10) (hb : v = nI 0 ∨ v = nI 1) (r : RQ G mX3_follow d 86 [x0, x1, x2, x3, x4, x5] (S) (hset h i (.inr (3, vs.set 9 (.int v)))) P) : RQ G mX3_follow d 83 [x0, x1, x2, x3, x4, x5] (.int v :: .ref i :: S) h P := q_putN (M := mX3_follow) (pc := 83) (kf := 9) dX3_follow_83 (show CL[3]? = some (RX4, TX4, 10) from rfl) inA4 tyX4_ok nmX4 (by decide) rfl v177 rfl (tyX4_ok 9 (by decide)) (nfit_bool hb) (by rw [hlen]; decide) ha r
theorem tX3_follow_86 {v : Int32} (ho : ok1 x2 = true := by rfl) (r : RQ G mX3_follow d 89 [x0, x1, x2, some (.int (v + (nI 1))), x4, x5] (S) (h) P) : RQ G mX3_follow d 86 [x0, x1, x2, some (.int v), x4, x5] (S) h P := q_iinc (M := mX3_follow) (pc := 86) dX3_follow_86 rfl (congrArg (v + ·) (show Int32.ofInt (1) = (nI 1) by decide)) (Nat.le_of_ble_eq_true rfl) ho r
theorem tX3_follow_89 (r : RQ G mX3_follow d 70 [x0, x1, x2, x3, x4, x5] S h P) : RQ G mX3_follow d 89 [x0, x1, x2, x3, x4, x5] (S) h P := q_goto (M := mX3_follow) (pc := 89) dX3_follow_89 (by decide) r
theorem tX3_follow_92 (hP : P (.inl none) h) : RQ G mX3_follow d 92 [x0, x1, x2, x3, x4, x5] ([]) h P := q_return (M := mX3_follow) (pc := 92) dX3_follow_92 rfl hP
end T
