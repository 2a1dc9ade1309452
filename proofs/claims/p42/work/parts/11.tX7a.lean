theorem dX7_init_0 : decode cX7_init 0 = .ok (.aload_n 0, 1) := by decide +kernel
theorem dX7_init_1 : decode cX7_init 1 = .ok (.invokespecial 3, 3) := by decide +kernel
theorem dX7_init_4 : decode cX7_init 4 = .ok (.aload_n 0, 1) := by decide +kernel
theorem dX7_init_5 : decode cX7_init 5 = .ok (.sipush 400, 3) := by decide +kernel
theorem dX7_init_8 : decode cX7_init 8 = .ok (.anewarray 9, 3) := by decide +kernel
theorem dX7_init_11 : decode cX7_init 11 = .ok (.putfield 11, 3) := by decide +kernel
theorem dX7_init_14 : decode cX7_init 14 = .ok (.aload_n 0, 1) := by decide +kernel
theorem dX7_init_15 : decode cX7_init 15 = .ok (.sipush 400, 3) := by decide +kernel
theorem dX7_init_18 : decode cX7_init 18 = .ok (.newarray .int, 2) := by decide +kernel
theorem dX7_init_20 : decode cX7_init 20 = .ok (.putfield 17, 3) := by decide +kernel
theorem dX7_init_23 : decode cX7_init 23 = .ok (.aload_n 0, 1) := by decide +kernel
theorem dX7_init_24 : decode cX7_init 24 = .ok (.bipush 24, 2) := by decide +kernel
theorem dX7_init_26 : decode cX7_init 26 = .ok (.newarray .int, 2) := by decide +kernel
theorem dX7_init_28 : decode cX7_init 28 = .ok (.putfield 21, 3) := by decide +kernel
theorem dX7_init_31 : decode cX7_init 31 = .ok (.aload_n 0, 1) := by decide +kernel
theorem dX7_init_32 : decode cX7_init 32 = .ok (.bipush 24, 2) := by decide +kernel
theorem dX7_init_34 : decode cX7_init 34 = .ok (.newarray .int, 2) := by decide +kernel
theorem dX7_init_36 : decode cX7_init 36 = .ok (.putfield 24, 3) := by decide +kernel
theorem dX7_init_39 : decode cX7_init 39 = .ok (.aload_n 0, 1) := by decide +kernel
theorem dX7_init_40 : decode cX7_init 40 = .ok (.bipush 24, 2) := by decide +kernel
theorem dX7_init_42 : decode cX7_init 42 = .ok (.newarray .int, 2) := by decide +kernel
theorem dX7_init_44 : decode cX7_init 44 = .ok (.putfield 27, 3) := by decide +kernel
theorem dX7_init_47 : decode cX7_init 47 = .ok (.return_, 1) := by decide +kernel
section T
variable {G : GT} {d : Nat} {S : List Value} {h : AH} {P : OC → AH → Prop} {x0 x1 x2 x3 x4 x5 x6 x7 x8 x9 x10 x11 x12 x13 x14 x15 : Option Value}
theorem tX7_init_0 {k : Nat} (r : RQ G mX7_init d 1 [some (.ref k)] (.ref k :: S) (h) P) : RQ G mX7_init d 0 [some (.ref k)] (S) h P := q_aload_n (M := mX7_init) (pc := 0) (r0 := some k) dX7_init_0 rfl rfl r
theorem tX7_init_1 {b : Nat} (hd : 1 ≤ d) (hst : (S.map fun v => v.category).sum ≤ 8 := by exact Nat.le_of_ble_eq_true rfl) (r : RQ G mX7_init d 4 [x0] (S) (h) P) : RQ G mX7_init d 1 [x0] (.ref b :: S) h P := q_objInit (M := mX7_init) (pc := 1) dX7_init_1 w231 w83 w84 hd hst r
theorem tX7_init_4 {k : Nat} (r : RQ G mX7_init d 5 [some (.ref k)] (.ref k :: S) (h) P) : RQ G mX7_init d 4 [some (.ref k)] (S) h P := q_aload_n (M := mX7_init) (pc := 4) (r0 := some k) dX7_init_4 rfl rfl r
theorem tX7_init_5 (r : RQ G mX7_init d 8 [x0] (.int (nI 400) :: S) (h) P) : RQ G mX7_init d 5 [x0] (S) h P := q_sipush (M := mX7_init) (pc := 5) dX7_init_5 (by decide) r
theorem tX7_init_8 {n : Nat} {x : Int32} (hx : x = nI n) (hn : n < 60000000) (r : RQ G mX7_init d 11 [x0] (.ref h.1 :: S) (hnew h n (.inl (4, n, .inr (.inr (.inr (.inr (fun _ => none))))))) P) : RQ G mX7_init d 8 [x0] (.int x :: S) h P := q_anew4 (M := mX7_init) (pc := 8) dX7_init_8 w232 hx hn r
theorem tX7_init_11 {i : Nat} {vs : List Value} {v : Nat} (ha : At h i (.inr (5, vs))) (hlen : vs.length = 8) (r : RQ G mX7_init d 14 [x0] (S) (hset h i (.inr (5, vs.set 0 (.ref v)))) P) : RQ G mX7_init d 11 [x0] (.ref v :: .ref i :: S) h P := q_putF (M := mX7_init) (pc := 11) (kf := 0) (host := "") dX7_init_11 (show CL[5]? = some (RX7, TX7, 8) from rfl) inA7 tyX7_ok nmX7 (by decide) rfl w233 rfl rfl rfl (tyX7_ok 0 (by decide)) (nfit_arr _ v) (by rw [hlen]; decide) ha r
theorem tX7_init_14 {k : Nat} (r : RQ G mX7_init d 15 [some (.ref k)] (.ref k :: S) (h) P) : RQ G mX7_init d 14 [some (.ref k)] (S) h P := q_aload_n (M := mX7_init) (pc := 14) (r0 := some k) dX7_init_14 rfl rfl r
theorem tX7_init_15 (r : RQ G mX7_init d 18 [x0] (.int (nI 400) :: S) (h) P) : RQ G mX7_init d 15 [x0] (S) h P := q_sipush (M := mX7_init) (pc := 15) dX7_init_15 (by decide) r
theorem tX7_init_18 {n : Nat} {x : Int32} (hx : x = nI n) (hn : n < 60000000) (r : RQ G mX7_init d 20 [x0] (.ref h.1 :: S) (hnew h n (.inl (0, n, .inl (fun _ => 0)))) P) : RQ G mX7_init d 18 [x0] (.int x :: S) h P := q_newaI (M := mX7_init) (pc := 18) dX7_init_18 w128 hx hn r
theorem tX7_init_20 {i : Nat} {vs : List Value} {v : Nat} (ha : At h i (.inr (5, vs))) (hlen : vs.length = 8) (r : RQ G mX7_init d 23 [x0] (S) (hset h i (.inr (5, vs.set 1 (.ref v)))) P) : RQ G mX7_init d 20 [x0] (.ref v :: .ref i :: S) h P := q_putF (M := mX7_init) (pc := 20) (kf := 1) (host := "") dX7_init_20 (show CL[5]? = some (RX7, TX7, 8) from rfl) inA7 tyX7_ok nmX7 (by decide) rfl w234 rfl rfl rfl (tyX7_ok 1 (by decide)) (nfit_arr _ v) (by rw [hlen]; decide) ha r
theorem tX7_init_23 {k : Nat} (r : RQ G mX7_init d 24 [some (.ref k)] (.ref k :: S) (h) P) : RQ G mX7_init d 23 [some (.ref k)] (S) h P := q_aload_n (M := mX7_init) (pc := 23) (r0 := some k) dX7_init_23 rfl rfl r
theorem tX7_init_24 (r : RQ G mX7_init d 26 [x0] (.int (nI 24) :: S) (h) P) : RQ G mX7_init d 24 [x0] (S) h P := q_bipush (M := mX7_init) (pc := 24) dX7_init_24 (by decide) r
theorem tX7_init_26 {n : Nat} {x : Int32} (hx : x = nI n) (hn : n < 60000000) (r : RQ G mX7_init d 28 [x0] (.ref h.1 :: S) (hnew h n (.inl (0, n, .inl (fun _ => 0)))) P) : RQ G mX7_init d 26 [x0] (.int x :: S) h P := q_newaI (M := mX7_init) (pc := 26) dX7_init_26 w128 hx hn r
theorem tX7_init_28 {i : Nat} {vs : List Value} {v : Nat} (ha : At h i (.inr (5, vs))) (hlen : vs.length = 8) (r : RQ G mX7_init d 31 [x0] (S) (hset h i (.inr (5, vs.set 2 (.ref v)))) P) : RQ G mX7_init d 28 [x0] (.ref v :: .ref i :: S) h P := q_putF (M := mX7_init) (pc := 28) (kf := 2) (host := "") dX7_init_28 (show CL[5]? = some (RX7, TX7, 8) from rfl) inA7 tyX7_ok nmX7 (by decide) rfl w235 rfl rfl rfl (tyX7_ok 2 (by decide)) (nfit_arr _ v) (by rw [hlen]; decide) ha r
theorem tX7_init_31 {k : Nat} (r : RQ G mX7_init d 32 [some (.ref k)] (.ref k :: S) (h) P) : RQ G mX7_init d 31 [some (.ref k)] (S) h P := q_aload_n (M := mX7_init) (pc := 31) (r0 := some k) dX7_init_31 rfl rfl r
theorem tX7_init_32 (r : RQ G mX7_init d 34 [x0] (.int (nI 24) :: S) (h) P) : RQ G mX7_init d 32 [x0] (S) h P := q_bipush (M := mX7_init) (pc := 32) dX7_init_32 (by decide) r
theorem tX7_init_34 {n : Nat} {x : Int32} (hx : x = nI n) (hn : n < 60000000) (r : RQ G mX7_init d 36 [x0] (.ref h.1 :: S) (hnew h n (.inl (0, n, .inl (fun _ => 0)))) P) : RQ G mX7_init d 34 [x0] (.int x :: S) h P := q_newaI (M := mX7_init) (pc := 34) dX7_init_34 w128 hx hn r
theorem tX7_init_36 {i : Nat} {vs : List Value} {v : Nat} (ha : At h i (.inr (5, vs))) (hlen : vs.length = 8) (r : RQ G mX7_init d 39 [x0] (S) (hset h i (.inr (5, vs.set 3 (.ref v)))) P) : RQ G mX7_init d 36 [x0] (.ref v :: .ref i :: S) h P := q_putF (M := mX7_init) (pc := 36) (kf := 3) (host := "") dX7_init_36 (show CL[5]? = some (RX7, TX7, 8) from rfl) inA7 tyX7_ok nmX7 (by decide) rfl w237 rfl rfl rfl (tyX7_ok 3 (by decide)) (nfit_arr _ v) (by rw [hlen]; decide) ha r
theorem tX7_init_39 {k : Nat} (r : RQ G mX7_init d 40 [some (.ref k)] (.ref k :: S) (h) P) : RQ G mX7_init d 39 [some (.ref k)] (S) h P := q_aload_n (M := mX7_init) (pc := 39) (r0 := some k) dX7_init_39 rfl rfl r
theorem tX7_init_40 (r : RQ G mX7_init d 42 [x0] (.int (nI 24) :: S) (h) P) : RQ G mX7_init d 40 [x0] (S) h P := q_bipush (M := mX7_init) (pc := 40) dX7_init_40 (by decide) r
theorem tX7_init_42 {n : Nat} {x : Int32} (hx : x = nI n) (hn : n < 60000000) (r : RQ G mX7_init d 44 [x0] (.ref h.1 :: S) (hnew h n (.inl (0, n, .inl (fun _ => 0)))) P) : RQ G mX7_init d 42 [x0] (.int x :: S) h P := q_newaI (M := mX7_init) (pc := 42) dX7_init_42 w128 hx hn r
theorem tX7_init_44 {i : Nat} {vs : List Value} {v : Nat} (ha : At h i (.inr (5, vs))) (hlen : vs.length = 8) (r : RQ G mX7_init d 47 [x0] (S) (hset h i (.inr (5, vs.set 4 (.ref v)))) P) : RQ G mX7_init d 44 [x0] (.ref v :: .ref i :: S) h P := q_putF (M := mX7_init) (pc := 44) (kf := 4) (host := "") dX7_init_44 (show CL[5]? = some (RX7, TX7, 8) from rfl) inA7 tyX7_ok nmX7 (by decide) rfl w239 rfl rfl rfl (tyX7_ok 4 (by decide)) (nfit_arr _ v) (by rw [hlen]; decide) ha r
theorem tX7_init_47 (hP : P (.inl none) h) : RQ G mX7_init d 47 [x0] ([]) h P := q_return (M := mX7_init) (pc := 47) dX7_init_47 rfl hP
end T
theorem dX7_empty_0 : decode cX7_empty 0 = .ok (.aload_n 0, 1) := by decide +kernel
theorem dX7_empty_1 : decode cX7_empty 1 = .ok (.iconst 0, 1) := by decide +kernel
theorem dX7_empty_2 : decode cX7_empty 2 = .ok (.putfield 30, 3) := by decide +kernel
theorem dX7_empty_5 : decode cX7_empty 5 = .ok (.aload_n 0, 1) := by decide +kernel
theorem dX7_empty_6 : decode cX7_empty 6 = .ok (.iconst 0, 1) := by decide +kernel
theorem dX7_empty_7 : decode cX7_empty 7 = .ok (.putfield 34, 3) := by decide +kernel
theorem dX7_empty_10 : decode cX7_empty 10 = .ok (.aload_n 0, 1) := by decide +kernel
theorem dX7_empty_11 : decode cX7_empty 11 = .ok (.iconst 0, 1) := by decide +kernel
theorem dX7_empty_12 : decode cX7_empty 12 = .ok (.putfield 37, 3) := by decide +kernel
theorem dX7_empty_15 : decode cX7_empty 15 = .ok (.return_, 1) := by decide +kernel
section T
variable {G : GT} {d : Nat} {S : List Value} {h : AH} {P : OC → AH → Prop} {x0 x1 x2 x3 x4 x5 x6 x7 x8 x9 x10 x11 x12 x13 x14 x15 : Option Value}
theorem tX7_empty_0 {k : Nat} (r : RQ G mX7_empty d 1 [some (.ref k)] (.ref k :: S) (h) P) : RQ G mX7_empty d 0 [some (.ref k)] (S) h P := q_aload_n (M := mX7_empty) (pc := 0) (r0 := some k) dX7_empty_0 rfl rfl r
theorem tX7_empty_1 (r : RQ G mX7_empty d 2 [x0] (.int (nI 0) :: S) (h) P) : RQ G mX7_empty d 1 [x0] (S) h P := q_iconst (M := mX7_empty) (pc := 1) dX7_empty_1 (by decide) r
theorem tX7_empty_2 {i : Nat} {vs : List Value} {v : Int32} (ha : At h i (.inr (5, vs))) (hlen : vs.length = 8) (r : RQ G mX7_empty d 5 [x0] (S) (hset h i (.inr (5, vs.set 5 (.int v)))) P) : RQ G mX7_empty d 2 [x0] (.int v :: .ref i :: S) h P := q_put (M := mX7_empty) (pc := 2) (kf := 5) (host := "") dX7_empty_2 (show CL[5]? = some (RX7, TX7, 8) from rfl) inA7 tyX7_ok nmX7 (by decide) rfl w241 rfl (tyX7_ok 5 (by decide)) (nfit_int v) (by rw [hlen]; decide) ha r
theorem tX7_empty_5 {k : Nat} (r : RQ G mX7_empty d 6 [some (.ref k)] (.ref k :: S) (h) P) : RQ G mX7_empty d 5 [some (.ref k)] (S) h P := q_aload_n (M := mX7_empty) (pc := 5) (r0 := some k) dX7_empty_5 rfl rfl r
theorem tX7_empty_6 (r : RQ G mX7_empty d 7 [x0] (.int (nI 0) :: S) (h) P) : RQ G mX7_empty d 6 [x0] (S) h P := q_iconst (M := mX7_empty) (pc := 6) dX7_empty_6 (by decide) r
theorem tX7_empty_7 {i : Nat} {vs : List Value} {v : Int32} (ha : At h i (.inr (5, vs))) (hlen : vs.length = 8) (r : RQ G mX7_empty d 10 [x0] (S) (hset h i (.inr (5, vs.set 6 (.int v)))) P) : RQ G mX7_empty d 7 [x0] (.int v :: .ref i :: S) h P := q_put (M := mX7_empty) (pc := 7) (kf := 6) (host := "") dX7_empty_7 (show CL[5]? = some (RX7, TX7, 8) from rfl) inA7 tyX7_ok nmX7 (by decide) rfl w242 rfl (tyX7_ok 6 (by decide)) (nfit_int v) (by rw [hlen]; decide) ha r
theorem tX7_empty_10 {k : Nat} (r : RQ G mX7_empty d 11 [some (.ref k)] (.ref k :: S) (h) P) : RQ G mX7_empty d 10 [some (.ref k)] (S) h P := q_aload_n (M := mX7_empty) (pc := 10) (r0 := some k) dX7_empty_10 rfl rfl r
theorem tX7_empty_11 (r : RQ G mX7_empty d 12 [x0] (.int (nI 0) :: S) (h) P) : RQ G mX7_empty d 11 [x0] (S) h P := q_iconst (M := mX7_empty) (pc := 11) dX7_empty_11 (by decide) r
theorem tX7_empty_12 {i : Nat} {vs : List Value} {v : Int32} (ha : At h i (.inr (5, vs))) (hlen : vs.length = 8) (r : RQ G mX7_empty d 15 [x0] (S) (hset h i (.inr (5, vs.set 7 (.int v)))) P) : RQ G mX7_empty d 12 [x0] (.int v :: .ref i :: S) h P := q_put (M := mX7_empty) (pc := 12) (kf := 7) (host := "") dX7_empty_12 (show CL[5]? = some (RX7, TX7, 8) from rfl) inA7 tyX7_ok nmX7 (by decide) rfl w245 rfl (tyX7_ok 7 (by decide)) (nfit_int v) (by rw [hlen]; decide) ha r
theorem tX7_empty_15 (hP : P (.inl none) h) : RQ G mX7_empty d 15 [x0] ([]) h P := q_return (M := mX7_empty) (pc := 15) dX7_empty_15 rfl hP
end T
theorem dX7_add_0 : decode cX7_add 0 = .ok (.aload_n 0, 1) := by decide +kernel
theorem dX7_add_1 : decode cX7_add 1 = .ok (.getfield 30, 3) := by decide +kernel
theorem dX7_add_4 : decode cX7_add 4 = .ok (.sipush 400, 3) := by decide +kernel
theorem dX7_add_7 : decode cX7_add 7 = .ok (.if_icmp .ge 33, 3) := by decide +kernel
theorem dX7_add_10 : decode cX7_add 10 = .ok (.aload_n 0, 1) := by decide +kernel
theorem dX7_add_11 : decode cX7_add 11 = .ok (.getfield 11, 3) := by decide +kernel
theorem dX7_add_14 : decode cX7_add 14 = .ok (.aload_n 0, 1) := by decide +kernel
theorem dX7_add_15 : decode cX7_add 15 = .ok (.getfield 30, 3) := by decide +kernel
theorem dX7_add_18 : decode cX7_add 18 = .ok (.aload_n 1, 1) := by decide +kernel
theorem dX7_add_19 : decode cX7_add 19 = .ok (.aastore, 1) := by decide +kernel
theorem dX7_add_20 : decode cX7_add 20 = .ok (.aload_n 0, 1) := by decide +kernel
theorem dX7_add_21 : decode cX7_add 21 = .ok (.getfield 17, 3) := by decide +kernel
theorem dX7_add_24 : decode cX7_add 24 = .ok (.aload_n 0, 1) := by decide +kernel
theorem dX7_add_25 : decode cX7_add 25 = .ok (.getfield 30, 3) := by decide +kernel
theorem dX7_add_28 : decode cX7_add 28 = .ok (.iload_n 2, 1) := by decide +kernel
theorem dX7_add_29 : decode cX7_add 29 = .ok (.iastore, 1) := by decide +kernel
theorem dX7_add_30 : decode cX7_add 30 = .ok (.aload_n 0, 1) := by decide +kernel
theorem dX7_add_31 : decode cX7_add 31 = .ok (.dup, 1) := by decide +kernel
theorem dX7_add_32 : decode cX7_add 32 = .ok (.getfield 30, 3) := by decide +kernel
theorem dX7_add_35 : decode cX7_add 35 = .ok (.iconst 1, 1) := by decide +kernel
theorem dX7_add_36 : decode cX7_add 36 = .ok (.iadd, 1) := by decide +kernel
theorem dX7_add_37 : decode cX7_add 37 = .ok (.putfield 30, 3) := by decide +kernel
theorem dX7_add_40 : decode cX7_add 40 = .ok (.return_, 1) := by decide +kernel
section T
variable {G : GT} {d : Nat} {S : List Value} {h : AH} {P : OC → AH → Prop} {x0 x1 x2 x3 x4 x5 x6 x7 x8 x9 x10 x11 x12 x13 x14 x15 : Option Value}
theorem tX7_add_0 {k : Nat} (r : RQ G mX7_add d 1 [some (.ref k), x1, x2] (.ref k :: S) (h) P) : RQ G mX7_add d 0 [some (.ref k), x1, x2] (S) h P := q_aload_n (M := mX7_add) (pc := 0) (r0 := some k) dX7_add_0 rfl rfl r
theorem tX7_add_1 {i : Nat} {vs : List Value} {v : Value} (ha : At h i (.inr (5, vs))) (hv : vs[5]? = some v) (r : RQ G mX7_add d 4 [x0, x1, x2] (v :: S) (h) P) : RQ G mX7_add d 1 [x0, x1, x2] (.ref i :: S) h P := q_get (M := mX7_add) (pc := 1) (kf := 5) dX7_add_1 (show CL[5]? = some (RX7, TX7, 8) from rfl) inA7 (by decide) rfl w241 ha hv r
theorem tX7_add_4 (r : RQ G mX7_add d 7 [x0, x1, x2] (.int (nI 400) :: S) (h) P) : RQ G mX7_add d 4 [x0, x1, x2] (S) h P := q_sipush (M := mX7_add) (pc := 4) dX7_add_4 (by decide) r
theorem tX7_add_7 {x y : Int32} (kt : y ≤ x → RQ G mX7_add d 40 [x0, x1, x2] S h P) (kf : ¬ y ≤ x → RQ G mX7_add d 10 [x0, x1, x2] S h P) : RQ G mX7_add d 7 [x0, x1, x2] (.int y :: .int x :: S) h P := q_icmp_ge (M := mX7_add) (pc := 7) dX7_add_7 (by decide) kt kf
theorem tX7_add_10 {k : Nat} (r : RQ G mX7_add d 11 [some (.ref k), x1, x2] (.ref k :: S) (h) P) : RQ G mX7_add d 10 [some (.ref k), x1, x2] (S) h P := q_aload_n (M := mX7_add) (pc := 10) (r0 := some k) dX7_add_10 rfl rfl r
theorem tX7_add_11 {i : Nat} {vs : List Value} {v : Value} (ha : At h i (.inr (5, vs))) (hv : vs[0]? = some v) (r : RQ G mX7_add d 14 [x0, x1, x2] (v :: S) (h) P) : RQ G mX7_add d 11 [x0, x1, x2] (.ref i :: S) h P := q_get (M := mX7_add) (pc := 11) (kf := 0) dX7_add_11 (show CL[5]? = some (RX7, TX7, 8) from rfl) inA7 (by decide) rfl w233 ha hv r
theorem tX7_add_14 {k : Nat} (r : RQ G mX7_add d 15 [some (.ref k), x1, x2] (.ref k :: S) (h) P) : RQ G mX7_add d 14 [some (.ref k), x1, x2] (S) h P := q_aload_n (M := mX7_add) (pc := 14) (r0 := some k) dX7_add_14 rfl rfl r
theorem tX7_add_15 {i : Nat} {vs : List Value} {v : Value} (ha : At h i (.inr (5, vs))) (hv : vs[5]? = some v) (r : RQ G mX7_add d 18 [x0, x1, x2] (v :: S) (h) P) : RQ G mX7_add d 15 [x0, x1, x2] (.ref i :: S) h P := q_get (M := mX7_add) (pc := 15) (kf := 5) dX7_add_15 (show CL[5]? = some (RX7, TX7, 8) from rfl) inA7 (by decide) rfl w241 ha hv r
theorem tX7_add_18 {k : Nat} (r : RQ G mX7_add d 19 [x0, some (.ref k), x2] (.ref k :: S) (h) P) : RQ G mX7_add d 18 [x0, some (.ref k), x2] (S) h P := q_aload_n (M := mX7_add) (pc := 18) (r0 := some k) dX7_add_18 rfl rfl r
theorem tX7_add_19 {a n j b : Nat} {x : Int32} {f : Nat → Option Nat} (ha : At h a (.inl (4, n, .inr (.inr (.inr (.inr f)))))) (hb : b < 43) (hx : x = nI j) (hj : j < n) (hn : n < 2147483648) (r : RQ G mX7_add d 20 [x0, x1, x2] (S) (hset h a (.inl (4, n, .inr (.inr (.inr (.inr (va_up f j (some (OLD + b))))))))) P) : RQ G mX7_add d 19 [x0, x1, x2] (.ref (OLD + b) :: .int x :: .ref a :: S) h P := q_aast4 (M := mX7_add) (pc := 19) dX7_add_19 ha hb hx hj hn r
theorem tX7_add_20 {k : Nat} (r : RQ G mX7_add d 21 [some (.ref k), x1, x2] (.ref k :: S) (h) P) : RQ G mX7_add d 20 [some (.ref k), x1, x2] (S) h P := q_aload_n (M := mX7_add) (pc := 20) (r0 := some k) dX7_add_20 rfl rfl r
theorem tX7_add_21 {i : Nat} {vs : List Value} {v : Value} (ha : At h i (.inr (5, vs))) (hv : vs[1]? = some v) (r : RQ G mX7_add d 24 [x0, x1, x2] (v :: S) (h) P) : RQ G mX7_add d 21 [x0, x1, x2] (.ref i :: S) h P := q_get (M := mX7_add) (pc := 21) (kf := 1) dX7_add_21 (show CL[5]? = some (RX7, TX7, 8) from rfl) inA7 (by decide) rfl w234 ha hv r
theorem tX7_add_24 {k : Nat} (r : RQ G mX7_add d 25 [some (.ref k), x1, x2] (.ref k :: S) (h) P) : RQ G mX7_add d 24 [some (.ref k), x1, x2] (S) h P := q_aload_n (M := mX7_add) (pc := 24) (r0 := some k) dX7_add_24 rfl rfl r
theorem tX7_add_25 {i : Nat} {vs : List Value} {v : Value} (ha : At h i (.inr (5, vs))) (hv : vs[5]? = some v) (r : RQ G mX7_add d 28 [x0, x1, x2] (v :: S) (h) P) : RQ G mX7_add d 25 [x0, x1, x2] (.ref i :: S) h P := q_get (M := mX7_add) (pc := 25) (kf := 5) dX7_add_25 (show CL[5]? = some (RX7, TX7, 8) from rfl) inA7 (by decide) rfl w241 ha hv r
theorem tX7_add_28 {v : Int32} (r : RQ G mX7_add d 29 [x0, x1, some (.int v)] (.int v :: S) (h) P) : RQ G mX7_add d 28 [x0, x1, some (.int v)] (S) h P := q_iload_n (M := mX7_add) (pc := 28) dX7_add_28 rfl rfl r
theorem tX7_add_29 {a n j : Nat} {x : Int32} {v : Int32} {f : Nat → Int32} (ha : At h a (.inl (0, n, .inl f))) (hx : x = nI j) (hj : j < n) (hn : n < 2147483648) (r : RQ G mX7_add d 30 [x0, x1, x2] (S) (hset h a (.inl (0, n, .inl (upd f j v)))) P) : RQ G mX7_add d 29 [x0, x1, x2] (.int v :: .int x :: .ref a :: S) h P := q_iast (M := mX7_add) (pc := 29) dX7_add_29 ha hx hj hn r
theorem tX7_add_30 {k : Nat} (r : RQ G mX7_add d 31 [some (.ref k), x1, x2] (.ref k :: S) (h) P) : RQ G mX7_add d 30 [some (.ref k), x1, x2] (S) h P := q_aload_n (M := mX7_add) (pc := 30) (r0 := some k) dX7_add_30 rfl rfl r
theorem tX7_add_31 {v : Value} (hv : ok1 (some v) = true := by rfl) (r : RQ G mX7_add d 32 [x0, x1, x2] (v :: v :: S) (h) P) : RQ G mX7_add d 31 [x0, x1, x2] (v :: S) h P := q_dup (M := mX7_add) (pc := 31) dX7_add_31 hv r
theorem tX7_add_32 {i : Nat} {vs : List Value} {v : Value} (ha : At h i (.inr (5, vs))) (hv : vs[5]? = some v) (r : RQ G mX7_add d 35 [x0, x1, x2] (v :: S) (h) P) : RQ G mX7_add d 32 [x0, x1, x2] (.ref i :: S) h P := q_get (M := mX7_add) (pc := 32) (kf := 5) dX7_add_32 (show CL[5]? = some (RX7, TX7, 8) from rfl) inA7 (by decide) rfl w241 ha hv r
theorem tX7_add_35 (r : RQ G mX7_add d 36 [x0, x1, x2] (.int (nI 1) :: S) (h) P) : RQ G mX7_add d 35 [x0, x1, x2] (S) h P := q_iconst (M := mX7_add) (pc := 35) dX7_add_35 (by decide) r
theorem tX7_add_36 {x y : Int32} (r : RQ G mX7_add d 37 [x0, x1, x2] (.int (x + y) :: S) (h) P) : RQ G mX7_add d 36 [x0, x1, x2] (.int y :: .int x :: S) h P := q_iadd (M := mX7_add) (pc := 36) dX7_add_36 r
theorem tX7_add_37 {i : Nat} {vs : List Value} {v : Int32} (ha : At h i (.inr (5, vs))) (hlen : vs.length = 8) (r : RQ G mX7_add d 40 [x0, x1, x2] (S) (hset h i (.inr (5, vs.set 5 (.int v)))) P) : RQ G mX7_add d 37 [x0, x1, x2] (.int v :: .ref i :: S) h P := q_put (M := mX7_add) (pc := 37) (kf := 5) (host := "") dX7_add_37 (show CL[5]? = some (RX7, TX7, 8) from rfl) inA7 tyX7_ok nmX7 (by decide) rfl w241 rfl (tyX7_ok 5 (by decide)) (nfit_int v) (by rw [hlen]; decide) ha r
theorem tX7_add_40 (hP : P (.inl none) h) : RQ G mX7_add d 40 [x0, x1, x2] ([]) h P := q_return (M := mX7_add) (pc := 40) dX7_add_40 rfl hP
end T
theorem dX7_beginRule_0 : decode cX7_beginRule 0 = .ok (.aload_n 0, 1) := by decide +kernel
theorem dX7_beginRule_1 : decode cX7_beginRule 1 = .ok (.getfield 34, 3) := by decide +kernel
theorem dX7_beginRule_4 : decode cX7_beginRule 4 = .ok (.bipush 24, 2) := by decide +kernel
theorem dX7_beginRule_6 : decode cX7_beginRule 6 = .ok (.if_icmp .ge 26, 3) := by decide +kernel
theorem dX7_beginRule_9 : decode cX7_beginRule 9 = .ok (.aload_n 0, 1) := by decide +kernel
theorem dX7_beginRule_10 : decode cX7_beginRule 10 = .ok (.getfield 21, 3) := by decide +kernel
theorem dX7_beginRule_13 : decode cX7_beginRule 13 = .ok (.aload_n 0, 1) := by decide +kernel
theorem dX7_beginRule_14 : decode cX7_beginRule 14 = .ok (.getfield 34, 3) := by decide +kernel
theorem dX7_beginRule_17 : decode cX7_beginRule 17 = .ok (.aload_n 0, 1) := by decide +kernel
theorem dX7_beginRule_18 : decode cX7_beginRule 18 = .ok (.getfield 30, 3) := by decide +kernel
theorem dX7_beginRule_21 : decode cX7_beginRule 21 = .ok (.iastore, 1) := by decide +kernel
theorem dX7_beginRule_22 : decode cX7_beginRule 22 = .ok (.aload_n 0, 1) := by decide +kernel
theorem dX7_beginRule_23 : decode cX7_beginRule 23 = .ok (.dup, 1) := by decide +kernel
theorem dX7_beginRule_24 : decode cX7_beginRule 24 = .ok (.getfield 34, 3) := by decide +kernel
theorem dX7_beginRule_27 : decode cX7_beginRule 27 = .ok (.iconst 1, 1) := by decide +kernel
theorem dX7_beginRule_28 : decode cX7_beginRule 28 = .ok (.iadd, 1) := by decide +kernel
theorem dX7_beginRule_29 : decode cX7_beginRule 29 = .ok (.putfield 34, 3) := by decide +kernel
theorem dX7_beginRule_32 : decode cX7_beginRule 32 = .ok (.return_, 1) := by decide +kernel
section T
variable {G : GT} {d : Nat} {S : List Value} {h : AH} {P : OC → AH → Prop} {x0 x1 x2 x3 x4 x5 x6 x7 x8 x9 x10 x11 x12 x13 x14 x15 : Option Value}
theorem tX7_beginRule_0 {k : Nat} (r : RQ G mX7_beginRule d 1 [some (.ref k)] (.ref k :: S) (h) P) : RQ G mX7_beginRule d 0 [some (.ref k)] (S) h P := q_aload_n (M := mX7_beginRule) (pc := 0) (r0 := some k) dX7_beginRule_0 rfl rfl r
theorem tX7_beginRule_1 {i : Nat} {vs : List Value} {v : Value} (ha : At h i (.inr (5, vs))) (hv : vs[6]? = some v) (r : RQ G mX7_beginRule d 4 [x0] (v :: S) (h) P) : RQ G mX7_beginRule d 1 [x0] (.ref i :: S) h P := q_get (M := mX7_beginRule) (pc := 1) (kf := 6) dX7_beginRule_1 (show CL[5]? = some (RX7, TX7, 8) from rfl) inA7 (by decide) rfl w242 ha hv r
theorem tX7_beginRule_4 (r : RQ G mX7_beginRule d 6 [x0] (.int (nI 24) :: S) (h) P) : RQ G mX7_beginRule d 4 [x0] (S) h P := q_bipush (M := mX7_beginRule) (pc := 4) dX7_beginRule_4 (by decide) r
theorem tX7_beginRule_6 {x y : Int32} (kt : y ≤ x → RQ G mX7_beginRule d 32 [x0] S h P) (kf : ¬ y ≤ x → RQ G mX7_beginRule d 9 [x0] S h P) : RQ G mX7_beginRule d 6 [x0] (.int y :: .int x :: S) h P := q_icmp_ge (M := mX7_beginRule) (pc := 6) dX7_beginRule_6 (by decide) kt kf
theorem tX7_beginRule_9 {k : Nat} (r : RQ G mX7_beginRule d 10 [some (.ref k)] (.ref k :: S) (h) P) : RQ G mX7_beginRule d 9 [some (.ref k)] (S) h P := q_aload_n (M := mX7_beginRule) (pc := 9) (r0 := some k) dX7_beginRule_9 rfl rfl r
theorem tX7_beginRule_10 {i : Nat} {vs : List Value} {v : Value} (ha : At h i (.inr (5, vs))) (hv : vs[2]? = some v) (r : RQ G mX7_beginRule d 13 [x0] (v :: S) (h) P) : RQ G mX7_beginRule d 10 [x0] (.ref i :: S) h P := q_get (M := mX7_beginRule) (pc := 10) (kf := 2) dX7_beginRule_10 (show CL[5]? = some (RX7, TX7, 8) from rfl) inA7 (by decide) rfl w235 ha hv r
theorem tX7_beginRule_13 {k : Nat} (r : RQ G mX7_beginRule d 14 [some (.ref k)] (.ref k :: S) (h) P) : RQ G mX7_beginRule d 13 [some (.ref k)] (S) h P := q_aload_n (M := mX7_beginRule) (pc := 13) (r0 := some k) dX7_beginRule_13 rfl rfl r
theorem tX7_beginRule_14 {i : Nat} {vs : List Value} {v : Value} (ha : At h i (.inr (5, vs))) (hv : vs[6]? = some v) (r : RQ G mX7_beginRule d 17 [x0] (v :: S) (h) P) : RQ G mX7_beginRule d 14 [x0] (.ref i :: S) h P := q_get (M := mX7_beginRule) (pc := 14) (kf := 6) dX7_beginRule_14 (show CL[5]? = some (RX7, TX7, 8) from rfl) inA7 (by decide) rfl w242 ha hv r
theorem tX7_beginRule_17 {k : Nat} (r : RQ G mX7_beginRule d 18 [some (.ref k)] (.ref k :: S) (h) P) : RQ G mX7_beginRule d 17 [some (.ref k)] (S) h P := q_aload_n (M := mX7_beginRule) (pc := 17) (r0 := some k) dX7_beginRule_17 rfl rfl r
theorem tX7_beginRule_18 {i : Nat} {vs : List Value} {v : Value} (ha : At h i (.inr (5, vs))) (hv : vs[5]? = some v) (r : RQ G mX7_beginRule d 21 [x0] (v :: S) (h) P) : RQ G mX7_beginRule d 18 [x0] (.ref i :: S) h P := q_get (M := mX7_beginRule) (pc := 18) (kf := 5) dX7_beginRule_18 (show CL[5]? = some (RX7, TX7, 8) from rfl) inA7 (by decide) rfl w241 ha hv r
theorem tX7_beginRule_21 {a n j : Nat} {x : Int32} {v : Int32} {f : Nat → Int32} (ha : At h a (.inl (0, n, .inl f))) (hx : x = nI j) (hj : j < n) (hn : n < 2147483648) (r : RQ G mX7_beginRule d 22 [x0] (S) (hset h a (.inl (0, n, .inl (upd f j v)))) P) : RQ G mX7_beginRule d 21 [x0] (.int v :: .int x :: .ref a :: S) h P := q_iast (M := mX7_beginRule) (pc := 21) dX7_beginRule_21 ha hx hj hn r
theorem tX7_beginRule_22 {k : Nat} (r : RQ G mX7_beginRule d 23 [some (.ref k)] (.ref k :: S) (h) P) : RQ G mX7_beginRule d 22 [some (.ref k)] (S) h P := q_aload_n (M := mX7_beginRule) (pc := 22) (r0 := some k) dX7_beginRule_22 rfl rfl r
theorem tX7_beginRule_23 {v : Value} (hv : ok1 (some v) = true := by rfl) (r : RQ G mX7_beginRule d 24 [x0] (v :: v :: S) (h) P) : RQ G mX7_beginRule d 23 [x0] (v :: S) h P := q_dup (M := mX7_beginRule) (pc := 23) dX7_beginRule_23 hv r
theorem tX7_beginRule_24 {i : Nat} {vs : List Value} {v : Value} (ha : At h i (.inr (5, vs))) (hv : vs[6]? = some v) (r : RQ G mX7_beginRule d 27 [x0] (v :: S) (h) P) : RQ G mX7_beginRule d 24 [x0] (.ref i :: S) h P := q_get (M := mX7_beginRule) (pc := 24) (kf := 6) dX7_beginRule_24 (show CL[5]? = some (RX7, TX7, 8) from rfl) inA7 (by decide) rfl w242 ha hv r
theorem tX7_beginRule_27 (r : RQ G mX7_beginRule d 28 [x0] (.int (nI 1) :: S) (h) P) : RQ G mX7_beginRule d 27 [x0] (S) h P := q_iconst (M := mX7_beginRule) (pc := 27) dX7_beginRule_27 (by decide) r
theorem tX7_beginRule_28 {x y : Int32} (r : RQ G mX7_beginRule d 29 [x0] (.int (x + y) :: S) (h) P) : RQ G mX7_beginRule d 28 [x0] (.int y :: .int x :: S) h P := q_iadd (M := mX7_beginRule) (pc := 28) dX7_beginRule_28 r
theorem tX7_beginRule_29 {i : Nat} {vs : List Value} {v : Int32} (ha : At h i (.inr (5, vs))) (hlen : vs.length = 8) (r : RQ G mX7_beginRule d 32 [x0] (S) (hset h i (.inr (5, vs.set 6 (.int v)))) P) : RQ G mX7_beginRule d 29 [x0] (.int v :: .ref i :: S) h P := q_put (M := mX7_beginRule) (pc := 29) (kf := 6) (host := "") dX7_beginRule_29 (show CL[5]? = some (RX7, TX7, 8) from rfl) inA7 tyX7_ok nmX7 (by decide) rfl w242 rfl (tyX7_ok 6 (by decide)) (nfit_int v) (by rw [hlen]; decide) ha r
theorem tX7_beginRule_32 (hP : P (.inl none) h) : RQ G mX7_beginRule d 32 [x0] ([]) h P := q_return (M := mX7_beginRule) (pc := 32) dX7_beginRule_32 rfl hP
end T
theorem dX7_endTest_0 : decode cX7_endTest 0 = .ok (.aload_n 0, 1) := by decide +kernel
theorem dX7_endTest_1 : decode cX7_endTest 1 = .ok (.getfield 34, 3) := by decide +kernel
theorem dX7_endTest_4 : decode cX7_endTest 4 = .ok (.ifCond .le 27, 3) := by decide +kernel
theorem dX7_endTest_7 : decode cX7_endTest 7 = .ok (.aload_n 0, 1) := by decide +kernel
theorem dX7_endTest_8 : decode cX7_endTest 8 = .ok (.getfield 34, 3) := by decide +kernel
theorem dX7_endTest_11 : decode cX7_endTest 11 = .ok (.bipush 24, 2) := by decide +kernel
theorem dX7_endTest_13 : decode cX7_endTest 13 = .ok (.if_icmp .gt 18, 3) := by decide +kernel
theorem dX7_endTest_16 : decode cX7_endTest 16 = .ok (.aload_n 0, 1) := by decide +kernel
theorem dX7_endTest_17 : decode cX7_endTest 17 = .ok (.getfield 24, 3) := by decide +kernel
theorem dX7_endTest_20 : decode cX7_endTest 20 = .ok (.aload_n 0, 1) := by decide +kernel
theorem dX7_endTest_21 : decode cX7_endTest 21 = .ok (.getfield 34, 3) := by decide +kernel
theorem dX7_endTest_24 : decode cX7_endTest 24 = .ok (.iconst 1, 1) := by decide +kernel
theorem dX7_endTest_25 : decode cX7_endTest 25 = .ok (.isub, 1) := by decide +kernel
theorem dX7_endTest_26 : decode cX7_endTest 26 = .ok (.aload_n 0, 1) := by decide +kernel
theorem dX7_endTest_27 : decode cX7_endTest 27 = .ok (.getfield 30, 3) := by decide +kernel
theorem dX7_endTest_30 : decode cX7_endTest 30 = .ok (.iastore, 1) := by decide +kernel
theorem dX7_endTest_31 : decode cX7_endTest 31 = .ok (.return_, 1) := by decide +kernel
section T
variable {G : GT} {d : Nat} {S : List Value} {h : AH} {P : OC → AH → Prop} {x0 x1 x2 x3 x4 x5 x6 x7 x8 x9 x10 x11 x12 x13 x14 x15 : Option Value}
theorem tX7_endTest_0 {k : Nat} (r : RQ G mX7_endTest d 1 [some (.ref k)] (.ref k :: S) (h) P) : RQ G mX7_endTest d 0 [some (.ref k)] (S) h P := q_aload_n (M := mX7_endTest) (pc := 0) (r0 := some k) dX7_endTest_0 rfl rfl r
theorem tX7_endTest_1 {i : Nat} {vs : List Value} {v : Value} (ha : At h i (.inr (5, vs))) (hv : vs[6]? = some v) (r : RQ G mX7_endTest d 4 [x0] (v :: S) (h) P) : RQ G mX7_endTest d 1 [x0] (.ref i :: S) h P := q_get (M := mX7_endTest) (pc := 1) (kf := 6) dX7_endTest_1 (show CL[5]? = some (RX7, TX7, 8) from rfl) inA7 (by decide) rfl w242 ha hv r
theorem tX7_endTest_4 {x : Int32} (kt : x ≤ 0 → RQ G mX7_endTest d 31 [x0] S h P) (kf : ¬ x ≤ 0 → RQ G mX7_endTest d 7 [x0] S h P) : RQ G mX7_endTest d 4 [x0] (.int x :: S) h P := q_if_le (M := mX7_endTest) (pc := 4) dX7_endTest_4 (by decide) kt kf
theorem tX7_endTest_7 {k : Nat} (r : RQ G mX7_endTest d 8 [some (.ref k)] (.ref k :: S) (h) P) : RQ G mX7_endTest d 7 [some (.ref k)] (S) h P := q_aload_n (M := mX7_endTest) (pc := 7) (r0 := some k) dX7_endTest_7 rfl rfl r
theorem tX7_endTest_8 {i : Nat} {vs : List Value} {v : Value} (ha : At h i (.inr (5, vs))) (hv : vs[6]? = some v) (r : RQ G mX7_endTest d 11 [x0] (v :: S) (h) P) : RQ G mX7_endTest d 8 [x0] (.ref i :: S) h P := q_get (M := mX7_endTest) (pc := 8) (kf := 6) dX7_endTest_8 (show CL[5]? = some (RX7, TX7, 8) from rfl) inA7 (by decide) rfl w242 ha hv r
theorem tX7_endTest_11 (r : RQ G mX7_endTest d 13 [x0] (.int (nI 24) :: S) (h) P) : RQ G mX7_endTest d 11 [x0] (S) h P := q_bipush (M := mX7_endTest) (pc := 11) dX7_endTest_11 (by decide) r
theorem tX7_endTest_13 {x y : Int32} (kt : y < x → RQ G mX7_endTest d 31 [x0] S h P) (kf : ¬ y < x → RQ G mX7_endTest d 16 [x0] S h P) : RQ G mX7_endTest d 13 [x0] (.int y :: .int x :: S) h P := q_icmp_gt (M := mX7_endTest) (pc := 13) dX7_endTest_13 (by decide) kt kf
theorem tX7_endTest_16 {k : Nat} (r : RQ G mX7_endTest d 17 [some (.ref k)] (.ref k :: S) (h) P) : RQ G mX7_endTest d 16 [some (.ref k)] (S) h P := q_aload_n (M := mX7_endTest) (pc := 16) (r0 := some k) dX7_endTest_16 rfl rfl r
theorem tX7_endTest_17 {i : Nat} {vs : List Value} {v : Value} (ha : At h i (.inr (5, vs))) (hv : vs[3]? = some v) (r : RQ G mX7_endTest d 20 [x0] (v :: S) (h) P) : RQ G mX7_endTest d 17 [x0] (.ref i :: S) h P := q_get (M := mX7_endTest) (pc := 17) (kf := 3) dX7_endTest_17 (show CL[5]? = some (RX7, TX7, 8) from rfl) inA7 (by decide) rfl w237 ha hv r
theorem tX7_endTest_20 {k : Nat} (r : RQ G mX7_endTest d 21 [some (.ref k)] (.ref k :: S) (h) P) : RQ G mX7_endTest d 20 [some (.ref k)] (S) h P := q_aload_n (M := mX7_endTest) (pc := 20) (r0 := some k) dX7_endTest_20 rfl rfl r
theorem tX7_endTest_21 {i : Nat} {vs : List Value} {v : Value} (ha : At h i (.inr (5, vs))) (hv : vs[6]? = some v) (r : RQ G mX7_endTest d 24 [x0] (v :: S) (h) P) : RQ G mX7_endTest d 21 [x0] (.ref i :: S) h P := q_get (M := mX7_endTest) (pc := 21) (kf := 6) dX7_endTest_21 (show CL[5]? = some (RX7, TX7, 8) from rfl) inA7 (by decide) rfl w242 ha hv r
theorem tX7_endTest_24 (r : RQ G mX7_endTest d 25 [x0] (.int (nI 1) :: S) (h) P) : RQ G mX7_endTest d 24 [x0] (S) h P := q_iconst (M := mX7_endTest) (pc := 24) dX7_endTest_24 (by decide) r
theorem tX7_endTest_25 {x y : Int32} (r : RQ G mX7_endTest d 26 [x0] (.int (x - y) :: S) (h) P) : RQ G mX7_endTest d 25 [x0] (.int y :: .int x :: S) h P := q_isub (M := mX7_endTest) (pc := 25) dX7_endTest_25 r
theorem tX7_endTest_26 {k : Nat} (r : RQ G mX7_endTest d 27 [some (.ref k)] (.ref k :: S) (h) P) : RQ G mX7_endTest d 26 [some (.ref k)] (S) h P := q_aload_n (M := mX7_endTest) (pc := 26) (r0 := some k) dX7_endTest_26 rfl rfl r
theorem tX7_endTest_27 {i : Nat} {vs : List Value} {v : Value} (ha : At h i (.inr (5, vs))) (hv : vs[5]? = some v) (r : RQ G mX7_endTest d 30 [x0] (v :: S) (h) P) : RQ G mX7_endTest d 27 [x0] (.ref i :: S) h P := q_get (M := mX7_endTest) (pc := 27) (kf := 5) dX7_endTest_27 (show CL[5]? = some (RX7, TX7, 8) from rfl) inA7 (by decide) rfl w241 ha hv r
theorem tX7_endTest_30 {a n j : Nat} {x : Int32} {v : Int32} {f : Nat → Int32} (ha : At h a (.inl (0, n, .inl f))) (hx : x = nI j) (hj : j < n) (hn : n < 2147483648) (r : RQ G mX7_endTest d 31 [x0] (S) (hset h a (.inl (0, n, .inl (upd f j v)))) P) : RQ G mX7_endTest d 30 [x0] (.int v :: .int x :: .ref a :: S) h P := q_iast (M := mX7_endTest) (pc := 30) dX7_endTest_30 ha hx hj hn r
theorem tX7_endTest_31 (hP : P (.inl none) h) : RQ G mX7_endTest d 31 [x0] ([]) h P := q_return (M := mX7_endTest) (pc := 31) dX7_endTest_31 rfl hP
end T
theorem dX7_endActs_0 : decode cX7_endActs 0 = .ok (.aload_n 0, 1) := by decide +kernel
theorem dX7_endActs_1 : decode cX7_endActs 1 = .ok (.getfield 34, 3) := by decide +kernel
theorem dX7_endActs_4 : decode cX7_endActs 4 = .ok (.ifCond .le 27, 3) := by decide +kernel
theorem dX7_endActs_7 : decode cX7_endActs 7 = .ok (.aload_n 0, 1) := by decide +kernel
theorem dX7_endActs_8 : decode cX7_endActs 8 = .ok (.getfield 34, 3) := by decide +kernel
theorem dX7_endActs_11 : decode cX7_endActs 11 = .ok (.bipush 24, 2) := by decide +kernel
theorem dX7_endActs_13 : decode cX7_endActs 13 = .ok (.if_icmp .gt 18, 3) := by decide +kernel
theorem dX7_endActs_16 : decode cX7_endActs 16 = .ok (.aload_n 0, 1) := by decide +kernel
theorem dX7_endActs_17 : decode cX7_endActs 17 = .ok (.getfield 27, 3) := by decide +kernel
theorem dX7_endActs_20 : decode cX7_endActs 20 = .ok (.aload_n 0, 1) := by decide +kernel
theorem dX7_endActs_21 : decode cX7_endActs 21 = .ok (.getfield 34, 3) := by decide +kernel
theorem dX7_endActs_24 : decode cX7_endActs 24 = .ok (.iconst 1, 1) := by decide +kernel
theorem dX7_endActs_25 : decode cX7_endActs 25 = .ok (.isub, 1) := by decide +kernel
theorem dX7_endActs_26 : decode cX7_endActs 26 = .ok (.aload_n 0, 1) := by decide +kernel
theorem dX7_endActs_27 : decode cX7_endActs 27 = .ok (.getfield 30, 3) := by decide +kernel
theorem dX7_endActs_30 : decode cX7_endActs 30 = .ok (.iastore, 1) := by decide +kernel
theorem dX7_endActs_31 : decode cX7_endActs 31 = .ok (.return_, 1) := by decide +kernel
section T
variable {G : GT} {d : Nat} {S : List Value} {h : AH} {P : OC → AH → Prop} {x0 x1 x2 x3 x4 x5 x6 x7 x8 x9 x10 x11 x12 x13 x14 x15 : Option Value}
theorem tX7_endActs_0 {k : Nat} (r : RQ G mX7_endActs d 1 [some (.ref k)] (.ref k :: S) (h) P) : RQ G mX7_endActs d 0 [some (.ref k)] (S) h P := q_aload_n (M := mX7_endActs) (pc := 0) (r0 := some k) dX7_endActs_0 rfl rfl r
theorem tX7_endActs_1 {i : Nat} {vs : List Value} {v : Value} (ha : At h i (.inr (5, vs))) (hv : vs[6]? = some v) (r : RQ G mX7_endActs d 4 [x0] (v :: S) (h) P) : RQ G mX7_endActs d 1 [x0] (.ref i :: S) h P := q_get (M := mX7_endActs) (pc := 1) (kf := 6) dX7_endActs_1 (show CL[5]? = some (RX7, TX7, 8) from rfl) inA7 (by decide) rfl w242 ha hv r
theorem tX7_endActs_4 {x : Int32} (kt : x ≤ 0 → RQ G mX7_endActs d 31 [x0] S h P) (kf : ¬ x ≤ 0 → RQ G mX7_endActs d 7 [x0] S h P) : RQ G mX7_endActs d 4 [x0] (.int x :: S) h P := q_if_le (M := mX7_endActs) (pc := 4) dX7_endActs_4 (by decide) kt kf
theorem tX7_endActs_7 {k : Nat} (r : RQ G mX7_endActs d 8 [some (.ref k)] (.ref k :: S) (h) P) : RQ G mX7_endActs d 7 [some (.ref k)] (S) h P := q_aload_n (M := mX7_endActs) (pc := 7) (r0 := some k) dX7_endActs_7 rfl rfl r
theorem tX7_endActs_8 {i : Nat} {vs : List Value} {v : Value} (ha : At h i (.inr (5, vs))) (hv : vs[6]? = some v) (r : RQ G mX7_endActs d 11 [x0] (v :: S) (h) P) : RQ G mX7_endActs d 8 [x0] (.ref i :: S) h P := q_get (M := mX7_endActs) (pc := 8) (kf := 6) dX7_endActs_8 (show CL[5]? = some (RX7, TX7, 8) from rfl) inA7 (by decide) rfl w242 ha hv r
theorem tX7_endActs_11 (r : RQ G mX7_endActs d 13 [x0] (.int (nI 24) :: S) (h) P) : RQ G mX7_endActs d 11 [x0] (S) h P := q_bipush (M := mX7_endActs) (pc := 11) dX7_endActs_11 (by decide) r
theorem tX7_endActs_13 {x y : Int32} (kt : y < x → RQ G mX7_endActs d 31 [x0] S h P) (kf : ¬ y < x → RQ G mX7_endActs d 16 [x0] S h P) : RQ G mX7_endActs d 13 [x0] (.int y :: .int x :: S) h P := q_icmp_gt (M := mX7_endActs) (pc := 13) dX7_endActs_13 (by decide) kt kf
theorem tX7_endActs_16 {k : Nat} (r : RQ G mX7_endActs d 17 [some (.ref k)] (.ref k :: S) (h) P) : RQ G mX7_endActs d 16 [some (.ref k)] (S) h P := q_aload_n (M := mX7_endActs) (pc := 16) (r0 := some k) dX7_endActs_16 rfl rfl r
theorem tX7_endActs_17 {i : Nat} {vs : List Value} {v : Value} (ha : At h i (.inr (5, vs))) (hv : vs[4]? = some v) (r : RQ G mX7_endActs d 20 [x0] (v :: S) (h) P) : RQ G mX7_endActs d 17 [x0] (.ref i :: S) h P := q_get (M := mX7_endActs) (pc := 17) (kf := 4) dX7_endActs_17 (show CL[5]? = some (RX7, TX7, 8) from rfl) inA7 (by decide) rfl w239 ha hv r
theorem tX7_endActs_20 {k : Nat} (r : RQ G mX7_endActs d 21 [some (.ref k)] (.ref k :: S) (h) P) : RQ G mX7_endActs d 20 [some (.ref k)] (S) h P := q_aload_n (M := mX7_endActs) (pc := 20) (r0 := some k) dX7_endActs_20 rfl rfl r
theorem tX7_endActs_21 {i : Nat} {vs : List Value} {v : Value} (ha : At h i (.inr (5, vs))) (hv : vs[6]? = some v) (r : RQ G mX7_endActs d 24 [x0] (v :: S) (h) P) : RQ G mX7_endActs d 21 [x0] (.ref i :: S) h P := q_get (M := mX7_endActs) (pc := 21) (kf := 6) dX7_endActs_21 (show CL[5]? = some (RX7, TX7, 8) from rfl) inA7 (by decide) rfl w242 ha hv r
theorem tX7_endActs_24 (r : RQ G mX7_endActs d 25 [x0] (.int (nI 1) :: S) (h) P) : RQ G mX7_endActs d 24 [x0] (S) h P := q_iconst (M := mX7_endActs) (pc := 24) dX7_endActs_24 (by decide) r
theorem tX7_endActs_25 {x y : Int32} (r : RQ G mX7_endActs d 26 [x0] (.int (x - y) :: S) (h) P) : RQ G mX7_endActs d 25 [x0] (.int y :: .int x :: S) h P := q_isub (M := mX7_endActs) (pc := 25) dX7_endActs_25 r
theorem tX7_endActs_26 {k : Nat} (r : RQ G mX7_endActs d 27 [some (.ref k)] (.ref k :: S) (h) P) : RQ G mX7_endActs d 26 [some (.ref k)] (S) h P := q_aload_n (M := mX7_endActs) (pc := 26) (r0 := some k) dX7_endActs_26 rfl rfl r
theorem tX7_endActs_27 {i : Nat} {vs : List Value} {v : Value} (ha : At h i (.inr (5, vs))) (hv : vs[5]? = some v) (r : RQ G mX7_endActs d 30 [x0] (v :: S) (h) P) : RQ G mX7_endActs d 27 [x0] (.ref i :: S) h P := q_get (M := mX7_endActs) (pc := 27) (kf := 5) dX7_endActs_27 (show CL[5]? = some (RX7, TX7, 8) from rfl) inA7 (by decide) rfl w241 ha hv r
theorem tX7_endActs_30 {a n j : Nat} {x : Int32} {v : Int32} {f : Nat → Int32} (ha : At h a (.inl (0, n, .inl f))) (hx : x = nI j) (hj : j < n) (hn : n < 2147483648) (r : RQ G mX7_endActs d 31 [x0] (S) (hset h a (.inl (0, n, .inl (upd f j v)))) P) : RQ G mX7_endActs d 30 [x0] (.int v :: .int x :: .ref a :: S) h P := q_iast (M := mX7_endActs) (pc := 30) dX7_endActs_30 ha hx hj hn r
theorem tX7_endActs_31 (hP : P (.inl none) h) : RQ G mX7_endActs d 31 [x0] ([]) h P := q_return (M := mX7_endActs) (pc := 31) dX7_endActs_31 rfl hP
end T
theorem dX7_kindAt_0 : decode cX7_kindAt 0 = .ok (.iload_n 1, 1) := by decide +kernel
theorem dX7_kindAt_1 : decode cX7_kindAt 1 = .ok (.ifCond .lt 20, 3) := by decide +kernel
theorem dX7_kindAt_4 : decode cX7_kindAt 4 = .ok (.iload_n 1, 1) := by decide +kernel
theorem dX7_kindAt_5 : decode cX7_kindAt 5 = .ok (.aload_n 0, 1) := by decide +kernel
theorem dX7_kindAt_6 : decode cX7_kindAt 6 = .ok (.getfield 30, 3) := by decide +kernel
theorem dX7_kindAt_9 : decode cX7_kindAt 9 = .ok (.if_icmp .ge 12, 3) := by decide +kernel
theorem dX7_kindAt_12 : decode cX7_kindAt 12 = .ok (.aload_n 0, 1) := by decide +kernel
theorem dX7_kindAt_13 : decode cX7_kindAt 13 = .ok (.getfield 11, 3) := by decide +kernel
theorem dX7_kindAt_16 : decode cX7_kindAt 16 = .ok (.iload_n 1, 1) := by decide +kernel
theorem dX7_kindAt_17 : decode cX7_kindAt 17 = .ok (.aaload, 1) := by decide +kernel
theorem dX7_kindAt_18 : decode cX7_kindAt 18 = .ok (.goto 6, 3) := by decide +kernel
theorem dX7_kindAt_21 : decode cX7_kindAt 21 = .ok (.getstatic 40, 3) := by decide +kernel
theorem dX7_kindAt_24 : decode cX7_kindAt 24 = .ok (.astore_n 2, 1) := by decide +kernel
theorem dX7_kindAt_25 : decode cX7_kindAt 25 = .ok (.aload_n 2, 1) := by decide +kernel
theorem dX7_kindAt_26 : decode cX7_kindAt 26 = .ok (.ifnonnull 9, 3) := by decide +kernel
theorem dX7_kindAt_29 : decode cX7_kindAt 29 = .ok (.getstatic 40, 3) := by decide +kernel
theorem dX7_kindAt_32 : decode cX7_kindAt 32 = .ok (.goto 4, 3) := by decide +kernel
theorem dX7_kindAt_35 : decode cX7_kindAt 35 = .ok (.aload_n 2, 1) := by decide +kernel
theorem dX7_kindAt_36 : decode cX7_kindAt 36 = .ok (.areturn, 1) := by decide +kernel
section T
variable {G : GT} {d : Nat} {S : List Value} {h : AH} {P : OC → AH → Prop} {x0 x1 x2 x3 x4 x5 x6 x7 x8 x9 x10 x11 x12 x13 x14 x15 : Option Value}
theorem tX7_kindAt_0 {v : Int32} (r : RQ G mX7_kindAt d 1 [x0, some (.int v), x2] (.int v :: S) (h) P) : RQ G mX7_kindAt d 0 [x0, some (.int v), x2] (S) h P := q_iload_n (M := mX7_kindAt) (pc := 0) dX7_kindAt_0 rfl rfl r
theorem tX7_kindAt_1 {x : Int32} (kt : x < 0 → RQ G mX7_kindAt d 21 [x0, x1, x2] S h P) (kf : ¬ x < 0 → RQ G mX7_kindAt d 4 [x0, x1, x2] S h P) : RQ G mX7_kindAt d 1 [x0, x1, x2] (.int x :: S) h P := q_if_lt (M := mX7_kindAt) (pc := 1) dX7_kindAt_1 (by decide) kt kf
theorem tX7_kindAt_4 {v : Int32} (r : RQ G mX7_kindAt d 5 [x0, some (.int v), x2] (.int v :: S) (h) P) : RQ G mX7_kindAt d 4 [x0, some (.int v), x2] (S) h P := q_iload_n (M := mX7_kindAt) (pc := 4) dX7_kindAt_4 rfl rfl r
theorem tX7_kindAt_5 {k : Nat} (r : RQ G mX7_kindAt d 6 [some (.ref k), x1, x2] (.ref k :: S) (h) P) : RQ G mX7_kindAt d 5 [some (.ref k), x1, x2] (S) h P := q_aload_n (M := mX7_kindAt) (pc := 5) (r0 := some k) dX7_kindAt_5 rfl rfl r
theorem tX7_kindAt_5q {r0 : Option Nat} (r : RQ G mX7_kindAt d 6 [some (va_rf r0), x1, x2] (va_rf r0 :: S) (h) P) : RQ G mX7_kindAt d 5 [some (va_rf r0), x1, x2] S h P := q_aload_n (M := mX7_kindAt) (pc := 5) dX7_kindAt_5 rfl rfl r
theorem tX7_kindAt_6 {i : Nat} {vs : List Value} {v : Value} (ha : At h i (.inr (5, vs))) (hv : vs[5]? = some v) (r : RQ G mX7_kindAt d 9 [x0, x1, x2] (v :: S) (h) P) : RQ G mX7_kindAt d 6 [x0, x1, x2] (.ref i :: S) h P := q_get (M := mX7_kindAt) (pc := 6) (kf := 5) dX7_kindAt_6 (show CL[5]? = some (RX7, TX7, 8) from rfl) inA7 (by decide) rfl w241 ha hv r
theorem tX7_kindAt_9 {x y : Int32} (kt : y ≤ x → RQ G mX7_kindAt d 21 [x0, x1, x2] S h P) (kf : ¬ y ≤ x → RQ G mX7_kindAt d 12 [x0, x1, x2] S h P) : RQ G mX7_kindAt d 9 [x0, x1, x2] (.int y :: .int x :: S) h P := q_icmp_ge (M := mX7_kindAt) (pc := 9) dX7_kindAt_9 (by decide) kt kf
theorem tX7_kindAt_12 {k : Nat} (r : RQ G mX7_kindAt d 13 [some (.ref k), x1, x2] (.ref k :: S) (h) P) : RQ G mX7_kindAt d 12 [some (.ref k), x1, x2] (S) h P := q_aload_n (M := mX7_kindAt) (pc := 12) (r0 := some k) dX7_kindAt_12 rfl rfl r
theorem tX7_kindAt_12q {r0 : Option Nat} (r : RQ G mX7_kindAt d 13 [some (va_rf r0), x1, x2] (va_rf r0 :: S) (h) P) : RQ G mX7_kindAt d 12 [some (va_rf r0), x1, x2] S h P := q_aload_n (M := mX7_kindAt) (pc := 12) dX7_kindAt_12 rfl rfl r
theorem tX7_kindAt_13 {i : Nat} {vs : List Value} {v : Value} (ha : At h i (.inr (5, vs))) (hv : vs[0]? = some v) (r : RQ G mX7_kindAt d 16 [x0, x1, x2] (v :: S) (h) P) : RQ G mX7_kindAt d 13 [x0, x1, x2] (.ref i :: S) h P := q_get (M := mX7_kindAt) (pc := 13) (kf := 0) dX7_kindAt_13 (show CL[5]? = some (RX7, TX7, 8) from rfl) inA7 (by decide) rfl w233 ha hv r
theorem tX7_kindAt_16 {v : Int32} (r : RQ G mX7_kindAt d 17 [x0, some (.int v), x2] (.int v :: S) (h) P) : RQ G mX7_kindAt d 16 [x0, some (.int v), x2] (S) h P := q_iload_n (M := mX7_kindAt) (pc := 16) dX7_kindAt_16 rfl rfl r
theorem tX7_kindAt_17 {a n j : Nat} {x : Int32} {f : Nat → Option Nat} (ha : At h a (.inl (4, n, .inr (.inr (.inr (.inr f)))))) (hx : x = nI j) (hj : j < n) (hn : n < 2147483648) (r : RQ G mX7_kindAt d 18 [x0, x1, x2] (va_rf (f j) :: S) (h) P) : RQ G mX7_kindAt d 17 [x0, x1, x2] (.int x :: .ref a :: S) h P := q_aald4 (M := mX7_kindAt) (pc := 17) dX7_kindAt_17 ha hx hj hn r
theorem tX7_kindAt_18 (r : RQ G mX7_kindAt d 24 [x0, x1, x2] S h P) : RQ G mX7_kindAt d 18 [x0, x1, x2] (S) h P := q_goto (M := mX7_kindAt) (pc := 18) dX7_kindAt_18 (by decide) r
theorem tX7_kindAt_21 (r : RQ G mX7_kindAt d 24 [x0, x1, x2] (.ref (OLD + 42) :: S) (h) P) : RQ G mX7_kindAt d 21 [x0, x1, x2] (S) h P := q_getE (M := mX7_kindAt) (pc := 21) (i := 42) dX7_kindAt_21 (by decide) w592 r
theorem tX7_kindAt_24 {k : Nat} (ho : ok1 x1 = true := by rfl) (r : RQ G mX7_kindAt d 25 [x0, x1, some (.ref k)] (S) (h) P) : RQ G mX7_kindAt d 24 [x0, x1, x2] (.ref k :: S) h P := q_astore_n (M := mX7_kindAt) (pc := 24) (r0 := some k) dX7_kindAt_24 rfl (Nat.le_of_ble_eq_true rfl) ho r
theorem tX7_kindAt_24q {r0 : Option Nat} (ho : ok1 x1 = true := by rfl) (r : RQ G mX7_kindAt d 25 [x0, x1, some (va_rf r0)] (S) (h) P) : RQ G mX7_kindAt d 24 [x0, x1, x2] (va_rf r0 :: S) h P := q_astore_n (M := mX7_kindAt) (pc := 24) dX7_kindAt_24 rfl (Nat.le_of_ble_eq_true rfl) ho r
theorem tX7_kindAt_25 {k : Nat} (r : RQ G mX7_kindAt d 26 [x0, x1, some (.ref k)] (.ref k :: S) (h) P) : RQ G mX7_kindAt d 25 [x0, x1, some (.ref k)] (S) h P := q_aload_n (M := mX7_kindAt) (pc := 25) (r0 := some k) dX7_kindAt_25 rfl rfl r
theorem tX7_kindAt_25q {r0 : Option Nat} (r : RQ G mX7_kindAt d 26 [x0, x1, some (va_rf r0)] (va_rf r0 :: S) (h) P) : RQ G mX7_kindAt d 25 [x0, x1, some (va_rf r0)] S h P := q_aload_n (M := mX7_kindAt) (pc := 25) dX7_kindAt_25 rfl rfl r
theorem tX7_kindAt_26 {r0 : Option Nat} (kt : r0 ≠ none → RQ G mX7_kindAt d 35 [x0, x1, x2] S h P) (kf : r0 = none → RQ G mX7_kindAt d 29 [x0, x1, x2] S h P) : RQ G mX7_kindAt d 26 [x0, x1, x2] (va_rf r0 :: S) h P := q_ifnonnull (M := mX7_kindAt) (pc := 26) dX7_kindAt_26 (by decide) kt kf
theorem tX7_kindAt_29 (r : RQ G mX7_kindAt d 32 [x0, x1, x2] (.ref (OLD + 42) :: S) (h) P) : RQ G mX7_kindAt d 29 [x0, x1, x2] (S) h P := q_getE (M := mX7_kindAt) (pc := 29) (i := 42) dX7_kindAt_29 (by decide) w592 r
theorem tX7_kindAt_32 (r : RQ G mX7_kindAt d 36 [x0, x1, x2] S h P) : RQ G mX7_kindAt d 32 [x0, x1, x2] (S) h P := q_goto (M := mX7_kindAt) (pc := 32) dX7_kindAt_32 (by decide) r
theorem tX7_kindAt_35 {k : Nat} (r : RQ G mX7_kindAt d 36 [x0, x1, some (.ref k)] (.ref k :: S) (h) P) : RQ G mX7_kindAt d 35 [x0, x1, some (.ref k)] (S) h P := q_aload_n (M := mX7_kindAt) (pc := 35) (r0 := some k) dX7_kindAt_35 rfl rfl r
theorem tX7_kindAt_35q {r0 : Option Nat} (r : RQ G mX7_kindAt d 36 [x0, x1, some (va_rf r0)] (va_rf r0 :: S) (h) P) : RQ G mX7_kindAt d 35 [x0, x1, some (va_rf r0)] S h P := q_aload_n (M := mX7_kindAt) (pc := 35) dX7_kindAt_35 rfl rfl r
theorem tX7_kindAt_36 {k : Nat} (hP : P (.inl (some (.ref k))) h) : RQ G mX7_kindAt d 36 [x0, x1, x2] ([.ref k]) h P := q_areturn (M := mX7_kindAt) (pc := 36) (r0 := some k) dX7_kindAt_36 rfl hP
end T
theorem dX7_numberAt_0 : decode cX7_numberAt 0 = .ok (.iload_n 1, 1) := by decide +kernel
theorem dX7_numberAt_1 : decode cX7_numberAt 1 = .ok (.ifCond .lt 20, 3) := by decide +kernel
theorem dX7_numberAt_4 : decode cX7_numberAt 4 = .ok (.iload_n 1, 1) := by decide +kernel
theorem dX7_numberAt_5 : decode cX7_numberAt 5 = .ok (.aload_n 0, 1) := by decide +kernel
theorem dX7_numberAt_6 : decode cX7_numberAt 6 = .ok (.getfield 30, 3) := by decide +kernel
theorem dX7_numberAt_9 : decode cX7_numberAt 9 = .ok (.if_icmp .ge 12, 3) := by decide +kernel
theorem dX7_numberAt_12 : decode cX7_numberAt 12 = .ok (.aload_n 0, 1) := by decide +kernel
theorem dX7_numberAt_13 : decode cX7_numberAt 13 = .ok (.getfield 17, 3) := by decide +kernel
theorem dX7_numberAt_16 : decode cX7_numberAt 16 = .ok (.iload_n 1, 1) := by decide +kernel
theorem dX7_numberAt_17 : decode cX7_numberAt 17 = .ok (.iaload, 1) := by decide +kernel
theorem dX7_numberAt_18 : decode cX7_numberAt 18 = .ok (.goto 4, 3) := by decide +kernel
theorem dX7_numberAt_21 : decode cX7_numberAt 21 = .ok (.iconst 0, 1) := by decide +kernel
theorem dX7_numberAt_22 : decode cX7_numberAt 22 = .ok (.ireturn, 1) := by decide +kernel
section T
variable {G : GT} {d : Nat} {S : List Value} {h : AH} {P : OC → AH → Prop} {x0 x1 x2 x3 x4 x5 x6 x7 x8 x9 x10 x11 x12 x13 x14 x15 : Option Value}
theorem tX7_numberAt_0 {v : Int32} (r : RQ G mX7_numberAt d 1 [x0, some (.int v)] (.int v :: S) (h) P) : RQ G mX7_numberAt d 0 [x0, some (.int v)] (S) h P := q_iload_n (M := mX7_numberAt) (pc := 0) dX7_numberAt_0 rfl rfl r
theorem tX7_numberAt_1 {x : Int32} (kt : x < 0 → RQ G mX7_numberAt d 21 [x0, x1] S h P) (kf : ¬ x < 0 → RQ G mX7_numberAt d 4 [x0, x1] S h P) : RQ G mX7_numberAt d 1 [x0, x1] (.int x :: S) h P := q_if_lt (M := mX7_numberAt) (pc := 1) dX7_numberAt_1 (by decide) kt kf
theorem tX7_numberAt_4 {v : Int32} (r : RQ G mX7_numberAt d 5 [x0, some (.int v)] (.int v :: S) (h) P) : RQ G mX7_numberAt d 4 [x0, some (.int v)] (S) h P := q_iload_n (M := mX7_numberAt) (pc := 4) dX7_numberAt_4 rfl rfl r
theorem tX7_numberAt_5 {k : Nat} (r : RQ G mX7_numberAt d 6 [some (.ref k), x1] (.ref k :: S) (h) P) : RQ G mX7_numberAt d 5 [some (.ref k), x1] (S) h P := q_aload_n (M := mX7_numberAt) (pc := 5) (r0 := some k) dX7_numberAt_5 rfl rfl r
theorem tX7_numberAt_6 {i : Nat} {vs : List Value} {v : Value} (ha : At h i (.inr (5, vs))) (hv : vs[5]? = some v) (r : RQ G mX7_numberAt d 9 [x0, x1] (v :: S) (h) P) : RQ G mX7_numberAt d 6 [x0, x1] (.ref i :: S) h P := q_get (M := mX7_numberAt) (pc := 6) (kf := 5) dX7_numberAt_6 (show CL[5]? = some (RX7, TX7, 8) from rfl) inA7 (by decide) rfl w241 ha hv r
theorem tX7_numberAt_9 {x y : Int32} (kt : y ≤ x → RQ G mX7_numberAt d 21 [x0, x1] S h P) (kf : ¬ y ≤ x → RQ G mX7_numberAt d 12 [x0, x1] S h P) : RQ G mX7_numberAt d 9 [x0, x1] (.int y :: .int x :: S) h P := q_icmp_ge (M := mX7_numberAt) (pc := 9) dX7_numberAt_9 (by decide) kt kf
theorem tX7_numberAt_12 {k : Nat} (r : RQ G mX7_numberAt d 13 [some (.ref k), x1] (.ref k :: S) (h) P) : RQ G mX7_numberAt d 12 [some (.ref k), x1] (S) h P := q_aload_n (M := mX7_numberAt) (pc := 12) (r0 := some k) dX7_numberAt_12 rfl rfl r
theorem tX7_numberAt_13 {i : Nat} {vs : List Value} {v : Value} (ha : At h i (.inr (5, vs))) (hv : vs[1]? = some v) (r : RQ G mX7_numberAt d 16 [x0, x1] (v :: S) (h) P) : RQ G mX7_numberAt d 13 [x0, x1] (.ref i :: S) h P := q_get (M := mX7_numberAt) (pc := 13) (kf := 1) dX7_numberAt_13 (show CL[5]? = some (RX7, TX7, 8) from rfl) inA7 (by decide) rfl w234 ha hv r
theorem tX7_numberAt_16 {v : Int32} (r : RQ G mX7_numberAt d 17 [x0, some (.int v)] (.int v :: S) (h) P) : RQ G mX7_numberAt d 16 [x0, some (.int v)] (S) h P := q_iload_n (M := mX7_numberAt) (pc := 16) dX7_numberAt_16 rfl rfl r
theorem tX7_numberAt_17 {a n j : Nat} {x : Int32} {f : Nat → Int32} (ha : At h a (.inl (0, n, .inl f))) (hx : x = nI j) (hj : j < n) (hn : n < 2147483648) (r : RQ G mX7_numberAt d 18 [x0, x1] (.int (f j) :: S) (h) P) : RQ G mX7_numberAt d 17 [x0, x1] (.int x :: .ref a :: S) h P := q_iald (M := mX7_numberAt) (pc := 17) dX7_numberAt_17 ha hx hj hn r
theorem tX7_numberAt_18 (r : RQ G mX7_numberAt d 22 [x0, x1] S h P) : RQ G mX7_numberAt d 18 [x0, x1] (S) h P := q_goto (M := mX7_numberAt) (pc := 18) dX7_numberAt_18 (by decide) r
theorem tX7_numberAt_21 (r : RQ G mX7_numberAt d 22 [x0, x1] (.int (nI 0) :: S) (h) P) : RQ G mX7_numberAt d 21 [x0, x1] (S) h P := q_iconst (M := mX7_numberAt) (pc := 21) dX7_numberAt_21 (by decide) r
theorem tX7_numberAt_22 {x : Int32} (hP : P (.inl (some (.int x))) h) : RQ G mX7_numberAt d 22 [x0, x1] ([.int x]) h P := q_ireturn (M := mX7_numberAt) (pc := 22) (ty := .int) dX7_numberAt_22 rfl rfl hP
end T
