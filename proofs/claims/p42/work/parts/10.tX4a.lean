theorem dX4_init_0 : decode cX4_init 0 = .ok (.aload_n 0, 1) := by decide +kernel
theorem dX4_init_1 : decode cX4_init 1 = .ok (.invokespecial 3, 3) := by decide +kernel
theorem dX4_init_4 : decode cX4_init 4 = .ok (.aload_n 0, 1) := by decide +kernel
theorem dX4_init_5 : decode cX4_init 5 = .ok (.bipush 6, 2) := by decide +kernel
theorem dX4_init_7 : decode cX4_init 7 = .ok (.newarray .int, 2) := by decide +kernel
theorem dX4_init_9 : decode cX4_init 9 = .ok (.putfield 9, 3) := by decide +kernel
theorem dX4_init_12 : decode cX4_init 12 = .ok (.aload_n 0, 1) := by decide +kernel
theorem dX4_init_13 : decode cX4_init 13 = .ok (.bipush 6, 2) := by decide +kernel
theorem dX4_init_15 : decode cX4_init 15 = .ok (.newarray .int, 2) := by decide +kernel
theorem dX4_init_17 : decode cX4_init 17 = .ok (.putfield 15, 3) := by decide +kernel
theorem dX4_init_20 : decode cX4_init 20 = .ok (.aload_n 0, 1) := by decide +kernel
theorem dX4_init_21 : decode cX4_init 21 = .ok (.bipush 6, 2) := by decide +kernel
theorem dX4_init_23 : decode cX4_init 23 = .ok (.newarray .int, 2) := by decide +kernel
theorem dX4_init_25 : decode cX4_init 25 = .ok (.putfield 18, 3) := by decide +kernel
theorem dX4_init_28 : decode cX4_init 28 = .ok (.aload_n 0, 1) := by decide +kernel
theorem dX4_init_29 : decode cX4_init 29 = .ok (.bipush 6, 2) := by decide +kernel
theorem dX4_init_31 : decode cX4_init 31 = .ok (.newarray .int, 2) := by decide +kernel
theorem dX4_init_33 : decode cX4_init 33 = .ok (.putfield 21, 3) := by decide +kernel
theorem dX4_init_36 : decode cX4_init 36 = .ok (.aload_n 0, 1) := by decide +kernel
theorem dX4_init_37 : decode cX4_init 37 = .ok (.getstatic 24, 3) := by decide +kernel
theorem dX4_init_40 : decode cX4_init 40 = .ok (.putfield 30, 3) := by decide +kernel
theorem dX4_init_43 : decode cX4_init 43 = .ok (.aload_n 0, 1) := by decide +kernel
theorem dX4_init_44 : decode cX4_init 44 = .ok (.iconst (-1), 1) := by decide +kernel
theorem dX4_init_45 : decode cX4_init 45 = .ok (.putfield 33, 3) := by decide +kernel
theorem dX4_init_48 : decode cX4_init 48 = .ok (.return_, 1) := by decide +kernel
section T
variable {G : GT} {d : Nat} {S : List Value} {h : AH} {P : OC → AH → Prop} {x0 x1 x2 x3 x4 x5 x6 x7 x8 x9 x10 x11 x12 x13 x14 x15 : Option Value}
theorem tX4_init_0 {k : Nat} (r : RQ G mX4_init d 1 [some (.ref k)] (.ref k :: S) (h) P) : RQ G mX4_init d 0 [some (.ref k)] (S) h P := q_aload_n (M := mX4_init) (pc := 0) (r0 := some k) dX4_init_0 rfl rfl r
theorem tX4_init_1 {b : Nat} (hd : 1 ≤ d) (hst : (S.map fun v => v.category).sum ≤ 8 := by exact Nat.le_of_ble_eq_true rfl) (r : RQ G mX4_init d 4 [x0] (S) (h) P) : RQ G mX4_init d 1 [x0] (.ref b :: S) h P := q_objInit (M := mX4_init) (pc := 1) dX4_init_1 w148 w83 w84 hd hst r
theorem tX4_init_4 {k : Nat} (r : RQ G mX4_init d 5 [some (.ref k)] (.ref k :: S) (h) P) : RQ G mX4_init d 4 [some (.ref k)] (S) h P := q_aload_n (M := mX4_init) (pc := 4) (r0 := some k) dX4_init_4 rfl rfl r
theorem tX4_init_5 (r : RQ G mX4_init d 7 [x0] (.int (nI 6) :: S) (h) P) : RQ G mX4_init d 5 [x0] (S) h P := q_bipush (M := mX4_init) (pc := 5) dX4_init_5 (by decide) r
theorem tX4_init_7 {n : Nat} {x : Int32} (hx : x = nI n) (hn : n < 60000000) (r : RQ G mX4_init d 9 [x0] (.ref h.1 :: S) (hnew h n (.inl (0, n, .inl (fun _ => 0)))) P) : RQ G mX4_init d 7 [x0] (.int x :: S) h P := q_newaI (M := mX4_init) (pc := 7) dX4_init_7 w128 hx hn r
theorem tX4_init_9 {i : Nat} {vs : List Value} {v : Nat} (ha : At h i (.inr (3, vs))) (hlen : vs.length = 10) (r : RQ G mX4_init d 12 [x0] (S) (hset h i (.inr (3, vs.set 0 (.ref v)))) P) : RQ G mX4_init d 9 [x0] (.ref v :: .ref i :: S) h P := q_putF (M := mX4_init) (pc := 9) (kf := 0) (host := "") dX4_init_9 (show CL[3]? = some (RX4, TX4, 10) from rfl) inA4 tyX4_ok nmX4 (by decide) rfl w151 rfl rfl rfl (tyX4_ok 0 (by decide)) (nfit_arr _ v) (by rw [hlen]; decide) ha r
theorem tX4_init_12 {k : Nat} (r : RQ G mX4_init d 13 [some (.ref k)] (.ref k :: S) (h) P) : RQ G mX4_init d 12 [some (.ref k)] (S) h P := q_aload_n (M := mX4_init) (pc := 12) (r0 := some k) dX4_init_12 rfl rfl r
theorem tX4_init_13 (r : RQ G mX4_init d 15 [x0] (.int (nI 6) :: S) (h) P) : RQ G mX4_init d 13 [x0] (S) h P := q_bipush (M := mX4_init) (pc := 13) dX4_init_13 (by decide) r
theorem tX4_init_15 {n : Nat} {x : Int32} (hx : x = nI n) (hn : n < 60000000) (r : RQ G mX4_init d 17 [x0] (.ref h.1 :: S) (hnew h n (.inl (0, n, .inl (fun _ => 0)))) P) : RQ G mX4_init d 15 [x0] (.int x :: S) h P := q_newaI (M := mX4_init) (pc := 15) dX4_init_15 w128 hx hn r
theorem tX4_init_17 {i : Nat} {vs : List Value} {v : Nat} (ha : At h i (.inr (3, vs))) (hlen : vs.length = 10) (r : RQ G mX4_init d 20 [x0] (S) (hset h i (.inr (3, vs.set 1 (.ref v)))) P) : RQ G mX4_init d 17 [x0] (.ref v :: .ref i :: S) h P := q_putF (M := mX4_init) (pc := 17) (kf := 1) (host := "") dX4_init_17 (show CL[3]? = some (RX4, TX4, 10) from rfl) inA4 tyX4_ok nmX4 (by decide) rfl w155 rfl rfl rfl (tyX4_ok 1 (by decide)) (nfit_arr _ v) (by rw [hlen]; decide) ha r
theorem tX4_init_20 {k : Nat} (r : RQ G mX4_init d 21 [some (.ref k)] (.ref k :: S) (h) P) : RQ G mX4_init d 20 [some (.ref k)] (S) h P := q_aload_n (M := mX4_init) (pc := 20) (r0 := some k) dX4_init_20 rfl rfl r
theorem tX4_init_21 (r : RQ G mX4_init d 23 [x0] (.int (nI 6) :: S) (h) P) : RQ G mX4_init d 21 [x0] (S) h P := q_bipush (M := mX4_init) (pc := 21) dX4_init_21 (by decide) r
theorem tX4_init_23 {n : Nat} {x : Int32} (hx : x = nI n) (hn : n < 60000000) (r : RQ G mX4_init d 25 [x0] (.ref h.1 :: S) (hnew h n (.inl (0, n, .inl (fun _ => 0)))) P) : RQ G mX4_init d 23 [x0] (.int x :: S) h P := q_newaI (M := mX4_init) (pc := 23) dX4_init_23 w128 hx hn r
theorem tX4_init_25 {i : Nat} {vs : List Value} {v : Nat} (ha : At h i (.inr (3, vs))) (hlen : vs.length = 10) (r : RQ G mX4_init d 28 [x0] (S) (hset h i (.inr (3, vs.set 2 (.ref v)))) P) : RQ G mX4_init d 25 [x0] (.ref v :: .ref i :: S) h P := q_putF (M := mX4_init) (pc := 25) (kf := 2) (host := "") dX4_init_25 (show CL[3]? = some (RX4, TX4, 10) from rfl) inA4 tyX4_ok nmX4 (by decide) rfl w157 rfl rfl rfl (tyX4_ok 2 (by decide)) (nfit_arr _ v) (by rw [hlen]; decide) ha r
theorem tX4_init_28 {k : Nat} (r : RQ G mX4_init d 29 [some (.ref k)] (.ref k :: S) (h) P) : RQ G mX4_init d 28 [some (.ref k)] (S) h P := q_aload_n (M := mX4_init) (pc := 28) (r0 := some k) dX4_init_28 rfl rfl r
theorem tX4_init_29 (r : RQ G mX4_init d 31 [x0] (.int (nI 6) :: S) (h) P) : RQ G mX4_init d 29 [x0] (S) h P := q_bipush (M := mX4_init) (pc := 29) dX4_init_29 (by decide) r
theorem tX4_init_31 {n : Nat} {x : Int32} (hx : x = nI n) (hn : n < 60000000) (r : RQ G mX4_init d 33 [x0] (.ref h.1 :: S) (hnew h n (.inl (0, n, .inl (fun _ => 0)))) P) : RQ G mX4_init d 31 [x0] (.int x :: S) h P := q_newaI (M := mX4_init) (pc := 31) dX4_init_31 w128 hx hn r
theorem tX4_init_33 {i : Nat} {vs : List Value} {v : Nat} (ha : At h i (.inr (3, vs))) (hlen : vs.length = 10) (r : RQ G mX4_init d 36 [x0] (S) (hset h i (.inr (3, vs.set 3 (.ref v)))) P) : RQ G mX4_init d 33 [x0] (.ref v :: .ref i :: S) h P := q_putF (M := mX4_init) (pc := 33) (kf := 3) (host := "") dX4_init_33 (show CL[3]? = some (RX4, TX4, 10) from rfl) inA4 tyX4_ok nmX4 (by decide) rfl w160 rfl rfl rfl (tyX4_ok 3 (by decide)) (nfit_arr _ v) (by rw [hlen]; decide) ha r
theorem tX4_init_36 {k : Nat} (r : RQ G mX4_init d 37 [some (.ref k)] (.ref k :: S) (h) P) : RQ G mX4_init d 36 [some (.ref k)] (S) h P := q_aload_n (M := mX4_init) (pc := 36) (r0 := some k) dX4_init_36 rfl rfl r
theorem tX4_init_37 (r : RQ G mX4_init d 40 [x0] (.ref (OLD + 24) :: S) (h) P) : RQ G mX4_init d 37 [x0] (S) h P := q_getE (M := mX4_init) (pc := 37) (i := 24) dX4_init_37 (by decide) w149 r
theorem tX4_init_40 {i : Nat} {vs : List Value} {v : Nat} (ha : At h i (.inr (3, vs))) (hlen : vs.length = 10) (r : RQ G mX4_init d 43 [x0] (S) (hset h i (.inr (3, vs.set 5 (.ref v)))) P) : RQ G mX4_init d 40 [x0] (.ref v :: .ref i :: S) h P := q_put (M := mX4_init) (pc := 40) (kf := 5) (host := "") dX4_init_40 (show CL[3]? = some (RX4, TX4, 10) from rfl) inA4 tyX4_ok nmX4 (by decide) rfl w165 rfl (tyX4_ok 5 (by decide)) (nfit_obj _ v) (by rw [hlen]; decide) ha r
theorem tX4_init_43 {k : Nat} (r : RQ G mX4_init d 44 [some (.ref k)] (.ref k :: S) (h) P) : RQ G mX4_init d 43 [some (.ref k)] (S) h P := q_aload_n (M := mX4_init) (pc := 43) (r0 := some k) dX4_init_43 rfl rfl r
theorem tX4_init_44 (r : RQ G mX4_init d 45 [x0] (.int (-1) :: S) (h) P) : RQ G mX4_init d 44 [x0] (S) h P := q_iconst (M := mX4_init) (pc := 44) dX4_init_44 (by decide) r
theorem tX4_init_45 {i : Nat} {vs : List Value} {v : Int32} (ha : At h i (.inr (3, vs))) (hlen : vs.length = 10) (r : RQ G mX4_init d 48 [x0] (S) (hset h i (.inr (3, vs.set 7 (.int v)))) P) : RQ G mX4_init d 45 [x0] (.int v :: .ref i :: S) h P := q_put (M := mX4_init) (pc := 45) (kf := 7) (host := "") dX4_init_45 (show CL[3]? = some (RX4, TX4, 10) from rfl) inA4 tyX4_ok nmX4 (by decide) rfl w170 rfl (tyX4_ok 7 (by decide)) (nfit_int v) (by rw [hlen]; decide) ha r
theorem tX4_init_48 (hP : P (.inl none) h) : RQ G mX4_init d 48 [x0] ([]) h P := q_return (M := mX4_init) (pc := 48) dX4_init_48 rfl hP
end T
theorem dX4_empty_0 : decode cX4_empty 0 = .ok (.iconst 0, 1) := by decide +kernel
theorem dX4_empty_1 : decode cX4_empty 1 = .ok (.istore_n 1, 1) := by decide +kernel
theorem dX4_empty_2 : decode cX4_empty 2 = .ok (.iload_n 1, 1) := by decide +kernel
theorem dX4_empty_3 : decode cX4_empty 3 = .ok (.bipush 6, 2) := by decide +kernel
theorem dX4_empty_5 : decode cX4_empty 5 = .ok (.if_icmp .ge 16, 3) := by decide +kernel
theorem dX4_empty_8 : decode cX4_empty 8 = .ok (.aload_n 0, 1) := by decide +kernel
theorem dX4_empty_9 : decode cX4_empty 9 = .ok (.getfield 9, 3) := by decide +kernel
theorem dX4_empty_12 : decode cX4_empty 12 = .ok (.iload_n 1, 1) := by decide +kernel
theorem dX4_empty_13 : decode cX4_empty 13 = .ok (.iconst 0, 1) := by decide +kernel
theorem dX4_empty_14 : decode cX4_empty 14 = .ok (.iastore, 1) := by decide +kernel
theorem dX4_empty_15 : decode cX4_empty 15 = .ok (.iinc 1 1, 3) := by decide +kernel
theorem dX4_empty_18 : decode cX4_empty 18 = .ok (.goto (-16), 3) := by decide +kernel
theorem dX4_empty_21 : decode cX4_empty 21 = .ok (.aload_n 0, 1) := by decide +kernel
theorem dX4_empty_22 : decode cX4_empty 22 = .ok (.iconst 0, 1) := by decide +kernel
theorem dX4_empty_23 : decode cX4_empty 23 = .ok (.putfield 37, 3) := by decide +kernel
theorem dX4_empty_26 : decode cX4_empty 26 = .ok (.aload_n 0, 1) := by decide +kernel
theorem dX4_empty_27 : decode cX4_empty 27 = .ok (.iconst 0, 1) := by decide +kernel
theorem dX4_empty_28 : decode cX4_empty 28 = .ok (.putfield 40, 3) := by decide +kernel
theorem dX4_empty_31 : decode cX4_empty 31 = .ok (.return_, 1) := by decide +kernel
section T
variable {G : GT} {d : Nat} {S : List Value} {h : AH} {P : OC → AH → Prop} {x0 x1 x2 x3 x4 x5 x6 x7 x8 x9 x10 x11 x12 x13 x14 x15 : Option Value}
theorem tX4_empty_0 (r : RQ G mX4_empty d 1 [x0, x1] (.int (nI 0) :: S) (h) P) : RQ G mX4_empty d 0 [x0, x1] (S) h P := q_iconst (M := mX4_empty) (pc := 0) dX4_empty_0 (by decide) r
theorem tX4_empty_1 {v : Int32} (ho : ok1 x0 = true := by rfl) (r : RQ G mX4_empty d 2 [x0, some (.int v)] (S) (h) P) : RQ G mX4_empty d 1 [x0, x1] (.int v :: S) h P := q_istore_n (M := mX4_empty) (pc := 1) dX4_empty_1 rfl (Nat.le_of_ble_eq_true rfl) ho r
theorem tX4_empty_2 {v : Int32} (r : RQ G mX4_empty d 3 [x0, some (.int v)] (.int v :: S) (h) P) : RQ G mX4_empty d 2 [x0, some (.int v)] (S) h P := q_iload_n (M := mX4_empty) (pc := 2) dX4_empty_2 rfl rfl r
theorem tX4_empty_3 (r : RQ G mX4_empty d 5 [x0, x1] (.int (nI 6) :: S) (h) P) : RQ G mX4_empty d 3 [x0, x1] (S) h P := q_bipush (M := mX4_empty) (pc := 3) dX4_empty_3 (by decide) r
theorem tX4_empty_5 {x y : Int32} (kt : y ≤ x → RQ G mX4_empty d 21 [x0, x1] S h P) (kf : ¬ y ≤ x → RQ G mX4_empty d 8 [x0, x1] S h P) : RQ G mX4_empty d 5 [x0, x1] (.int y :: .int x :: S) h P := q_icmp_ge (M := mX4_empty) (pc := 5) dX4_empty_5 (by decide) kt kf
theorem tX4_empty_8 {k : Nat} (r : RQ G mX4_empty d 9 [some (.ref k), x1] (.ref k :: S) (h) P) : RQ G mX4_empty d 8 [some (.ref k), x1] (S) h P := q_aload_n (M := mX4_empty) (pc := 8) (r0 := some k) dX4_empty_8 rfl rfl r
theorem tX4_empty_9 {i : Nat} {vs : List Value} {v : Value} (ha : At h i (.inr (3, vs))) (hv : vs[0]? = some v) (r : RQ G mX4_empty d 12 [x0, x1] (v :: S) (h) P) : RQ G mX4_empty d 9 [x0, x1] (.ref i :: S) h P := q_get (M := mX4_empty) (pc := 9) (kf := 0) dX4_empty_9 (show CL[3]? = some (RX4, TX4, 10) from rfl) inA4 (by decide) rfl w151 ha hv r
theorem tX4_empty_12 {v : Int32} (r : RQ G mX4_empty d 13 [x0, some (.int v)] (.int v :: S) (h) P) : RQ G mX4_empty d 12 [x0, some (.int v)] (S) h P := q_iload_n (M := mX4_empty) (pc := 12) dX4_empty_12 rfl rfl r
theorem tX4_empty_13 (r : RQ G mX4_empty d 14 [x0, x1] (.int (nI 0) :: S) (h) P) : RQ G mX4_empty d 13 [x0, x1] (S) h P := q_iconst (M := mX4_empty) (pc := 13) dX4_empty_13 (by decide) r
theorem tX4_empty_14 {a n j : Nat} {x : Int32} {v : Int32} {f : Nat → Int32} (ha : At h a (.inl (0, n, .inl f))) (hx : x = nI j) (hj : j < n) (hn : n < 2147483648) (r : RQ G mX4_empty d 15 [x0, x1] (S) (hset h a (.inl (0, n, .inl (upd f j v)))) P) : RQ G mX4_empty d 14 [x0, x1] (.int v :: .int x :: .ref a :: S) h P := q_iast (M := mX4_empty) (pc := 14) dX4_empty_14 ha hx hj hn r
theorem tX4_empty_15 {v : Int32} (ho : ok1 x0 = true := by rfl) (r : RQ G mX4_empty d 18 [x0, some (.int (v + (nI 1)))] (S) (h) P) : RQ G mX4_empty d 15 [x0, some (.int v)] (S) h P := q_iinc (M := mX4_empty) (pc := 15) dX4_empty_15 rfl (congrArg (v + ·) (show Int32.ofInt (1) = (nI 1) by decide)) (Nat.le_of_ble_eq_true rfl) ho r
theorem tX4_empty_18 (r : RQ G mX4_empty d 2 [x0, x1] S h P) : RQ G mX4_empty d 18 [x0, x1] (S) h P := q_goto (M := mX4_empty) (pc := 18) dX4_empty_18 (by decide) r
theorem tX4_empty_21 {k : Nat} (r : RQ G mX4_empty d 22 [some (.ref k), x1] (.ref k :: S) (h) P) : RQ G mX4_empty d 21 [some (.ref k), x1] (S) h P := q_aload_n (M := mX4_empty) (pc := 21) (r0 := some k) dX4_empty_21 rfl rfl r
theorem tX4_empty_22 (r : RQ G mX4_empty d 23 [x0, x1] (.int (nI 0) :: S) (h) P) : RQ G mX4_empty d 22 [x0, x1] (S) h P := q_iconst (M := mX4_empty) (pc := 22) dX4_empty_22 (by decide) r
theorem tX4_empty_23 {i : Nat} {vs : List Value} {v : Int32} (ha : At h i (.inr (3, vs))) (hlen : vs.length = 10) (r : RQ G mX4_empty d 26 [x0, x1] (S) (hset h i (.inr (3, vs.set 4 (.int v)))) P) : RQ G mX4_empty d 23 [x0, x1] (.int v :: .ref i :: S) h P := q_put (M := mX4_empty) (pc := 23) (kf := 4) (host := "") dX4_empty_23 (show CL[3]? = some (RX4, TX4, 10) from rfl) inA4 tyX4_ok nmX4 (by decide) rfl w161 rfl (tyX4_ok 4 (by decide)) (nfit_int v) (by rw [hlen]; decide) ha r
theorem tX4_empty_26 {k : Nat} (r : RQ G mX4_empty d 27 [some (.ref k), x1] (.ref k :: S) (h) P) : RQ G mX4_empty d 26 [some (.ref k), x1] (S) h P := q_aload_n (M := mX4_empty) (pc := 26) (r0 := some k) dX4_empty_26 rfl rfl r
theorem tX4_empty_27 (r : RQ G mX4_empty d 28 [x0, x1] (.int (nI 0) :: S) (h) P) : RQ G mX4_empty d 27 [x0, x1] (S) h P := q_iconst (M := mX4_empty) (pc := 27) dX4_empty_27 (by decide) r
theorem tX4_empty_28 {i : Nat} {vs : List Value} {v : Int32} (ha : At h i (.inr (3, vs))) (hlen : vs.length = 10) (hb : v = nI 0 ∨ v = nI 1) (r : RQ G mX4_empty d 31 [x0, x1] (S) (hset h i (.inr (3, vs.set 9 (.int v)))) P) : RQ G mX4_empty d 28 [x0, x1] (.int v :: .ref i :: S) h P := q_put (M := mX4_empty) (pc := 28) (kf := 9) (host := "") dX4_empty_28 (show CL[3]? = some (RX4, TX4, 10) from rfl) inA4 tyX4_ok nmX4 (by decide) rfl w176 rfl (tyX4_ok 9 (by decide)) (nfit_bool hb) (by rw [hlen]; decide) ha r
theorem tX4_empty_31 (hP : P (.inl none) h) : RQ G mX4_empty d 31 [x0, x1] ([]) h P := q_return (M := mX4_empty) (pc := 31) dX4_empty_31 rfl hP
end T
theorem dX4_becomeLike_0 : decode cX4_becomeLike 0 = .ok (.iconst 0, 1) := by decide +kernel
theorem dX4_becomeLike_1 : decode cX4_becomeLike 1 = .ok (.istore_n 2, 1) := by decide +kernel
theorem dX4_becomeLike_2 : decode cX4_becomeLike 2 = .ok (.iload_n 2, 1) := by decide +kernel
theorem dX4_becomeLike_3 : decode cX4_becomeLike 3 = .ok (.bipush 6, 2) := by decide +kernel
theorem dX4_becomeLike_5 : decode cX4_becomeLike 5 = .ok (.if_icmp .ge 21, 3) := by decide +kernel
theorem dX4_becomeLike_8 : decode cX4_becomeLike 8 = .ok (.aload_n 0, 1) := by decide +kernel
theorem dX4_becomeLike_9 : decode cX4_becomeLike 9 = .ok (.getfield 9, 3) := by decide +kernel
theorem dX4_becomeLike_12 : decode cX4_becomeLike 12 = .ok (.iload_n 2, 1) := by decide +kernel
theorem dX4_becomeLike_13 : decode cX4_becomeLike 13 = .ok (.aload_n 1, 1) := by decide +kernel
theorem dX4_becomeLike_14 : decode cX4_becomeLike 14 = .ok (.getfield 9, 3) := by decide +kernel
theorem dX4_becomeLike_17 : decode cX4_becomeLike 17 = .ok (.iload_n 2, 1) := by decide +kernel
theorem dX4_becomeLike_18 : decode cX4_becomeLike 18 = .ok (.iaload, 1) := by decide +kernel
theorem dX4_becomeLike_19 : decode cX4_becomeLike 19 = .ok (.iastore, 1) := by decide +kernel
theorem dX4_becomeLike_20 : decode cX4_becomeLike 20 = .ok (.iinc 2 1, 3) := by decide +kernel
theorem dX4_becomeLike_23 : decode cX4_becomeLike 23 = .ok (.goto (-21), 3) := by decide +kernel
theorem dX4_becomeLike_26 : decode cX4_becomeLike 26 = .ok (.aload_n 0, 1) := by decide +kernel
theorem dX4_becomeLike_27 : decode cX4_becomeLike 27 = .ok (.aload_n 1, 1) := by decide +kernel
theorem dX4_becomeLike_28 : decode cX4_becomeLike 28 = .ok (.getfield 37, 3) := by decide +kernel
theorem dX4_becomeLike_31 : decode cX4_becomeLike 31 = .ok (.putfield 37, 3) := by decide +kernel
theorem dX4_becomeLike_34 : decode cX4_becomeLike 34 = .ok (.aload_n 0, 1) := by decide +kernel
theorem dX4_becomeLike_35 : decode cX4_becomeLike 35 = .ok (.aload_n 1, 1) := by decide +kernel
theorem dX4_becomeLike_36 : decode cX4_becomeLike 36 = .ok (.getfield 30, 3) := by decide +kernel
theorem dX4_becomeLike_39 : decode cX4_becomeLike 39 = .ok (.putfield 30, 3) := by decide +kernel
theorem dX4_becomeLike_42 : decode cX4_becomeLike 42 = .ok (.aload_n 0, 1) := by decide +kernel
theorem dX4_becomeLike_43 : decode cX4_becomeLike 43 = .ok (.iconst 0, 1) := by decide +kernel
theorem dX4_becomeLike_44 : decode cX4_becomeLike 44 = .ok (.putfield 40, 3) := by decide +kernel
theorem dX4_becomeLike_47 : decode cX4_becomeLike 47 = .ok (.return_, 1) := by decide +kernel
section T
variable {G : GT} {d : Nat} {S : List Value} {h : AH} {P : OC → AH → Prop} {x0 x1 x2 x3 x4 x5 x6 x7 x8 x9 x10 x11 x12 x13 x14 x15 : Option Value}
theorem tX4_becomeLike_0 (r : RQ G mX4_becomeLike d 1 [x0, x1, x2] (.int (nI 0) :: S) (h) P) : RQ G mX4_becomeLike d 0 [x0, x1, x2] (S) h P := q_iconst (M := mX4_becomeLike) (pc := 0) dX4_becomeLike_0 (by decide) r
theorem tX4_becomeLike_1 {v : Int32} (ho : ok1 x1 = true := by rfl) (r : RQ G mX4_becomeLike d 2 [x0, x1, some (.int v)] (S) (h) P) : RQ G mX4_becomeLike d 1 [x0, x1, x2] (.int v :: S) h P := q_istore_n (M := mX4_becomeLike) (pc := 1) dX4_becomeLike_1 rfl (Nat.le_of_ble_eq_true rfl) ho r
theorem tX4_becomeLike_2 {v : Int32} (r : RQ G mX4_becomeLike d 3 [x0, x1, some (.int v)] (.int v :: S) (h) P) : RQ G mX4_becomeLike d 2 [x0, x1, some (.int v)] (S) h P := q_iload_n (M := mX4_becomeLike) (pc := 2) dX4_becomeLike_2 rfl rfl r
theorem tX4_becomeLike_3 (r : RQ G mX4_becomeLike d 5 [x0, x1, x2] (.int (nI 6) :: S) (h) P) : RQ G mX4_becomeLike d 3 [x0, x1, x2] (S) h P := q_bipush (M := mX4_becomeLike) (pc := 3) dX4_becomeLike_3 (by decide) r
theorem tX4_becomeLike_5 {x y : Int32} (kt : y ≤ x → RQ G mX4_becomeLike d 26 [x0, x1, x2] S h P) (kf : ¬ y ≤ x → RQ G mX4_becomeLike d 8 [x0, x1, x2] S h P) : RQ G mX4_becomeLike d 5 [x0, x1, x2] (.int y :: .int x :: S) h P := q_icmp_ge (M := mX4_becomeLike) (pc := 5) dX4_becomeLike_5 (by decide) kt kf
theorem tX4_becomeLike_8 {k : Nat} (r : RQ G mX4_becomeLike d 9 [some (.ref k), x1, x2] (.ref k :: S) (h) P) : RQ G mX4_becomeLike d 8 [some (.ref k), x1, x2] (S) h P := q_aload_n (M := mX4_becomeLike) (pc := 8) (r0 := some k) dX4_becomeLike_8 rfl rfl r
theorem tX4_becomeLike_9 {i : Nat} {vs : List Value} {v : Value} (ha : At h i (.inr (3, vs))) (hv : vs[0]? = some v) (r : RQ G mX4_becomeLike d 12 [x0, x1, x2] (v :: S) (h) P) : RQ G mX4_becomeLike d 9 [x0, x1, x2] (.ref i :: S) h P := q_get (M := mX4_becomeLike) (pc := 9) (kf := 0) dX4_becomeLike_9 (show CL[3]? = some (RX4, TX4, 10) from rfl) inA4 (by decide) rfl w151 ha hv r
theorem tX4_becomeLike_12 {v : Int32} (r : RQ G mX4_becomeLike d 13 [x0, x1, some (.int v)] (.int v :: S) (h) P) : RQ G mX4_becomeLike d 12 [x0, x1, some (.int v)] (S) h P := q_iload_n (M := mX4_becomeLike) (pc := 12) dX4_becomeLike_12 rfl rfl r
theorem tX4_becomeLike_13 {k : Nat} (r : RQ G mX4_becomeLike d 14 [x0, some (.ref k), x2] (.ref k :: S) (h) P) : RQ G mX4_becomeLike d 13 [x0, some (.ref k), x2] (S) h P := q_aload_n (M := mX4_becomeLike) (pc := 13) (r0 := some k) dX4_becomeLike_13 rfl rfl r
theorem tX4_becomeLike_14 {i : Nat} {vs : List Value} {v : Value} (ha : At h i (.inr (3, vs))) (hv : vs[0]? = some v) (r : RQ G mX4_becomeLike d 17 [x0, x1, x2] (v :: S) (h) P) : RQ G mX4_becomeLike d 14 [x0, x1, x2] (.ref i :: S) h P := q_get (M := mX4_becomeLike) (pc := 14) (kf := 0) dX4_becomeLike_14 (show CL[3]? = some (RX4, TX4, 10) from rfl) inA4 (by decide) rfl w151 ha hv r
theorem tX4_becomeLike_17 {v : Int32} (r : RQ G mX4_becomeLike d 18 [x0, x1, some (.int v)] (.int v :: S) (h) P) : RQ G mX4_becomeLike d 17 [x0, x1, some (.int v)] (S) h P := q_iload_n (M := mX4_becomeLike) (pc := 17) dX4_becomeLike_17 rfl rfl r
theorem tX4_becomeLike_18 {a n j : Nat} {x : Int32} {f : Nat → Int32} (ha : At h a (.inl (0, n, .inl f))) (hx : x = nI j) (hj : j < n) (hn : n < 2147483648) (r : RQ G mX4_becomeLike d 19 [x0, x1, x2] (.int (f j) :: S) (h) P) : RQ G mX4_becomeLike d 18 [x0, x1, x2] (.int x :: .ref a :: S) h P := q_iald (M := mX4_becomeLike) (pc := 18) dX4_becomeLike_18 ha hx hj hn r
theorem tX4_becomeLike_19 {a n j : Nat} {x : Int32} {v : Int32} {f : Nat → Int32} (ha : At h a (.inl (0, n, .inl f))) (hx : x = nI j) (hj : j < n) (hn : n < 2147483648) (r : RQ G mX4_becomeLike d 20 [x0, x1, x2] (S) (hset h a (.inl (0, n, .inl (upd f j v)))) P) : RQ G mX4_becomeLike d 19 [x0, x1, x2] (.int v :: .int x :: .ref a :: S) h P := q_iast (M := mX4_becomeLike) (pc := 19) dX4_becomeLike_19 ha hx hj hn r
theorem tX4_becomeLike_20 {v : Int32} (ho : ok1 x1 = true := by rfl) (r : RQ G mX4_becomeLike d 23 [x0, x1, some (.int (v + (nI 1)))] (S) (h) P) : RQ G mX4_becomeLike d 20 [x0, x1, some (.int v)] (S) h P := q_iinc (M := mX4_becomeLike) (pc := 20) dX4_becomeLike_20 rfl (congrArg (v + ·) (show Int32.ofInt (1) = (nI 1) by decide)) (Nat.le_of_ble_eq_true rfl) ho r
theorem tX4_becomeLike_23 (r : RQ G mX4_becomeLike d 2 [x0, x1, x2] S h P) : RQ G mX4_becomeLike d 23 [x0, x1, x2] (S) h P := q_goto (M := mX4_becomeLike) (pc := 23) dX4_becomeLike_23 (by decide) r
theorem tX4_becomeLike_26 {k : Nat} (r : RQ G mX4_becomeLike d 27 [some (.ref k), x1, x2] (.ref k :: S) (h) P) : RQ G mX4_becomeLike d 26 [some (.ref k), x1, x2] (S) h P := q_aload_n (M := mX4_becomeLike) (pc := 26) (r0 := some k) dX4_becomeLike_26 rfl rfl r
theorem tX4_becomeLike_27 {k : Nat} (r : RQ G mX4_becomeLike d 28 [x0, some (.ref k), x2] (.ref k :: S) (h) P) : RQ G mX4_becomeLike d 27 [x0, some (.ref k), x2] (S) h P := q_aload_n (M := mX4_becomeLike) (pc := 27) (r0 := some k) dX4_becomeLike_27 rfl rfl r
theorem tX4_becomeLike_28 {i : Nat} {vs : List Value} {v : Value} (ha : At h i (.inr (3, vs))) (hv : vs[4]? = some v) (r : RQ G mX4_becomeLike d 31 [x0, x1, x2] (v :: S) (h) P) : RQ G mX4_becomeLike d 28 [x0, x1, x2] (.ref i :: S) h P := q_get (M := mX4_becomeLike) (pc := 28) (kf := 4) dX4_becomeLike_28 (show CL[3]? = some (RX4, TX4, 10) from rfl) inA4 (by decide) rfl w161 ha hv r
theorem tX4_becomeLike_31 {i : Nat} {vs : List Value} {v : Int32} (ha : At h i (.inr (3, vs))) (hlen : vs.length = 10) (r : RQ G mX4_becomeLike d 34 [x0, x1, x2] (S) (hset h i (.inr (3, vs.set 4 (.int v)))) P) : RQ G mX4_becomeLike d 31 [x0, x1, x2] (.int v :: .ref i :: S) h P := q_put (M := mX4_becomeLike) (pc := 31) (kf := 4) (host := "") dX4_becomeLike_31 (show CL[3]? = some (RX4, TX4, 10) from rfl) inA4 tyX4_ok nmX4 (by decide) rfl w161 rfl (tyX4_ok 4 (by decide)) (nfit_int v) (by rw [hlen]; decide) ha r
theorem tX4_becomeLike_34 {k : Nat} (r : RQ G mX4_becomeLike d 35 [some (.ref k), x1, x2] (.ref k :: S) (h) P) : RQ G mX4_becomeLike d 34 [some (.ref k), x1, x2] (S) h P := q_aload_n (M := mX4_becomeLike) (pc := 34) (r0 := some k) dX4_becomeLike_34 rfl rfl r
theorem tX4_becomeLike_35 {k : Nat} (r : RQ G mX4_becomeLike d 36 [x0, some (.ref k), x2] (.ref k :: S) (h) P) : RQ G mX4_becomeLike d 35 [x0, some (.ref k), x2] (S) h P := q_aload_n (M := mX4_becomeLike) (pc := 35) (r0 := some k) dX4_becomeLike_35 rfl rfl r
theorem tX4_becomeLike_36 {i : Nat} {vs : List Value} {v : Value} (ha : At h i (.inr (3, vs))) (hv : vs[5]? = some v) (r : RQ G mX4_becomeLike d 39 [x0, x1, x2] (v :: S) (h) P) : RQ G mX4_becomeLike d 36 [x0, x1, x2] (.ref i :: S) h P := q_get (M := mX4_becomeLike) (pc := 36) (kf := 5) dX4_becomeLike_36 (show CL[3]? = some (RX4, TX4, 10) from rfl) inA4 (by decide) rfl w165 ha hv r
theorem tX4_becomeLike_39 {i : Nat} {vs : List Value} {v : Nat} (ha : At h i (.inr (3, vs))) (hlen : vs.length = 10) (r : RQ G mX4_becomeLike d 42 [x0, x1, x2] (S) (hset h i (.inr (3, vs.set 5 (.ref v)))) P) : RQ G mX4_becomeLike d 39 [x0, x1, x2] (.ref v :: .ref i :: S) h P := q_put (M := mX4_becomeLike) (pc := 39) (kf := 5) (host := "") dX4_becomeLike_39 (show CL[3]? = some (RX4, TX4, 10) from rfl) inA4 tyX4_ok nmX4 (by decide) rfl w165 rfl (tyX4_ok 5 (by decide)) (nfit_obj _ v) (by rw [hlen]; decide) ha r
theorem tX4_becomeLike_42 {k : Nat} (r : RQ G mX4_becomeLike d 43 [some (.ref k), x1, x2] (.ref k :: S) (h) P) : RQ G mX4_becomeLike d 42 [some (.ref k), x1, x2] (S) h P := q_aload_n (M := mX4_becomeLike) (pc := 42) (r0 := some k) dX4_becomeLike_42 rfl rfl r
theorem tX4_becomeLike_43 (r : RQ G mX4_becomeLike d 44 [x0, x1, x2] (.int (nI 0) :: S) (h) P) : RQ G mX4_becomeLike d 43 [x0, x1, x2] (S) h P := q_iconst (M := mX4_becomeLike) (pc := 43) dX4_becomeLike_43 (by decide) r
theorem tX4_becomeLike_44 {i : Nat} {vs : List Value} {v : Int32} (ha : At h i (.inr (3, vs))) (hlen : vs.length = 10) (hb : v = nI 0 ∨ v = nI 1) (r : RQ G mX4_becomeLike d 47 [x0, x1, x2] (S) (hset h i (.inr (3, vs.set 9 (.int v)))) P) : RQ G mX4_becomeLike d 44 [x0, x1, x2] (.int v :: .ref i :: S) h P := q_put (M := mX4_becomeLike) (pc := 44) (kf := 9) (host := "") dX4_becomeLike_44 (show CL[3]? = some (RX4, TX4, 10) from rfl) inA4 tyX4_ok nmX4 (by decide) rfl w176 rfl (tyX4_ok 9 (by decide)) (nfit_bool hb) (by rw [hlen]; decide) ha r
theorem tX4_becomeLike_47 (hP : P (.inl none) h) : RQ G mX4_becomeLike d 47 [x0, x1, x2] ([]) h P := q_return (M := mX4_becomeLike) (pc := 47) dX4_becomeLike_47 rfl hP
end T
theorem dX4_move_0 : decode cX4_move 0 = .ok (.iload_n 3, 1) := by decide +kernel
theorem dX4_move_1 : decode cX4_move 1 = .ok (.iconst 0, 1) := by decide +kernel
theorem dX4_move_2 : decode cX4_move 2 = .ok (.invokestatic 44, 3) := by decide +kernel
theorem dX4_move_5 : decode cX4_move 5 = .ok (.aload_n 0, 1) := by decide +kernel
theorem dX4_move_6 : decode cX4_move 6 = .ok (.getfield 9, 3) := by decide +kernel
theorem dX4_move_9 : decode cX4_move 9 = .ok (.iload_n 1, 1) := by decide +kernel
theorem dX4_move_10 : decode cX4_move 10 = .ok (.iaload, 1) := by decide +kernel
theorem dX4_move_11 : decode cX4_move 11 = .ok (.invokestatic 50, 3) := by decide +kernel
theorem dX4_move_14 : decode cX4_move 14 = .ok (.istore 4, 2) := by decide +kernel
theorem dX4_move_16 : decode cX4_move 16 = .ok (.aload_n 0, 1) := by decide +kernel
theorem dX4_move_17 : decode cX4_move 17 = .ok (.getfield 9, 3) := by decide +kernel
theorem dX4_move_20 : decode cX4_move 20 = .ok (.iload_n 1, 1) := by decide +kernel
theorem dX4_move_21 : decode cX4_move 21 = .ok (.dup2, 1) := by decide +kernel
theorem dX4_move_22 : decode cX4_move 22 = .ok (.iaload, 1) := by decide +kernel
theorem dX4_move_23 : decode cX4_move 23 = .ok (.iload 4, 2) := by decide +kernel
theorem dX4_move_25 : decode cX4_move 25 = .ok (.isub, 1) := by decide +kernel
theorem dX4_move_26 : decode cX4_move 26 = .ok (.iastore, 1) := by decide +kernel
theorem dX4_move_27 : decode cX4_move 27 = .ok (.aload_n 0, 1) := by decide +kernel
theorem dX4_move_28 : decode cX4_move 28 = .ok (.getfield 9, 3) := by decide +kernel
theorem dX4_move_31 : decode cX4_move 31 = .ok (.iload_n 2, 1) := by decide +kernel
theorem dX4_move_32 : decode cX4_move 32 = .ok (.dup2, 1) := by decide +kernel
theorem dX4_move_33 : decode cX4_move 33 = .ok (.iaload, 1) := by decide +kernel
theorem dX4_move_34 : decode cX4_move 34 = .ok (.iload 4, 2) := by decide +kernel
theorem dX4_move_36 : decode cX4_move 36 = .ok (.iadd, 1) := by decide +kernel
theorem dX4_move_37 : decode cX4_move 37 = .ok (.iastore, 1) := by decide +kernel
theorem dX4_move_38 : decode cX4_move 38 = .ok (.aload_n 0, 1) := by decide +kernel
theorem dX4_move_39 : decode cX4_move 39 = .ok (.iconst 0, 1) := by decide +kernel
theorem dX4_move_40 : decode cX4_move 40 = .ok (.putfield 40, 3) := by decide +kernel
theorem dX4_move_43 : decode cX4_move 43 = .ok (.iload 4, 2) := by decide +kernel
theorem dX4_move_45 : decode cX4_move 45 = .ok (.ireturn, 1) := by decide +kernel
section T
variable {G : GT} {d : Nat} {S : List Value} {h : AH} {P : OC → AH → Prop} {x0 x1 x2 x3 x4 x5 x6 x7 x8 x9 x10 x11 x12 x13 x14 x15 : Option Value}
theorem tX4_move_0 {v : Int32} (r : RQ G mX4_move d 1 [x0, x1, x2, some (.int v), x4] (.int v :: S) (h) P) : RQ G mX4_move d 0 [x0, x1, x2, some (.int v), x4] (S) h P := q_iload_n (M := mX4_move) (pc := 0) dX4_move_0 rfl rfl r
theorem tX4_move_1 (r : RQ G mX4_move d 2 [x0, x1, x2, x3, x4] (.int (nI 0) :: S) (h) P) : RQ G mX4_move d 1 [x0, x1, x2, x3, x4] (S) h P := q_iconst (M := mX4_move) (pc := 1) dX4_move_1 (by decide) r
theorem tX4_move_2 {x y : Int32} (hd : 1 ≤ d) (hst : (S.map fun v => v.category).sum ≤ 8 := by exact Nat.le_of_ble_eq_true rfl) (r : RQ G mX4_move d 5 [x0, x1, x2, x3, x4] (.int (if x < y then y else x) :: S) (h) P) : RQ G mX4_move d 2 [x0, x1, x2, x3, x4] (.int y :: .int x :: S) h P := q_max (M := mX4_move) (pc := 2) dX4_move_2 w618 w619 w59 w620 hd hst r
theorem tX4_move_5 {k : Nat} (r : RQ G mX4_move d 6 [some (.ref k), x1, x2, x3, x4] (.ref k :: S) (h) P) : RQ G mX4_move d 5 [some (.ref k), x1, x2, x3, x4] (S) h P := q_aload_n (M := mX4_move) (pc := 5) (r0 := some k) dX4_move_5 rfl rfl r
theorem tX4_move_6 {i : Nat} {vs : List Value} {v : Value} (ha : At h i (.inr (3, vs))) (hv : vs[0]? = some v) (r : RQ G mX4_move d 9 [x0, x1, x2, x3, x4] (v :: S) (h) P) : RQ G mX4_move d 6 [x0, x1, x2, x3, x4] (.ref i :: S) h P := q_get (M := mX4_move) (pc := 6) (kf := 0) dX4_move_6 (show CL[3]? = some (RX4, TX4, 10) from rfl) inA4 (by decide) rfl w151 ha hv r
theorem tX4_move_9 {v : Int32} (r : RQ G mX4_move d 10 [x0, some (.int v), x2, x3, x4] (.int v :: S) (h) P) : RQ G mX4_move d 9 [x0, some (.int v), x2, x3, x4] (S) h P := q_iload_n (M := mX4_move) (pc := 9) dX4_move_9 rfl rfl r
theorem tX4_move_10 {a n j : Nat} {x : Int32} {f : Nat → Int32} (ha : At h a (.inl (0, n, .inl f))) (hx : x = nI j) (hj : j < n) (hn : n < 2147483648) (r : RQ G mX4_move d 11 [x0, x1, x2, x3, x4] (.int (f j) :: S) (h) P) : RQ G mX4_move d 10 [x0, x1, x2, x3, x4] (.int x :: .ref a :: S) h P := q_iald (M := mX4_move) (pc := 10) dX4_move_10 ha hx hj hn r
theorem tX4_move_11 {x y : Int32} (hd : 1 ≤ d) (hst : (S.map fun v => v.category).sum ≤ 8 := by exact Nat.le_of_ble_eq_true rfl) (r : RQ G mX4_move d 14 [x0, x1, x2, x3, x4] (.int (if y < x then y else x) :: S) (h) P) : RQ G mX4_move d 11 [x0, x1, x2, x3, x4] (.int y :: .int x :: S) h P := q_min (M := mX4_move) (pc := 11) dX4_move_11 w621 w622 w59 w623 hd hst r
theorem tX4_move_14 {v : Int32} (ho : ok1 x3 = true := by rfl) (r : RQ G mX4_move d 16 [x0, x1, x2, x3, some (.int v)] (S) (h) P) : RQ G mX4_move d 14 [x0, x1, x2, x3, x4] (.int v :: S) h P := q_istore (M := mX4_move) (pc := 14) dX4_move_14 (Nat.le_of_ble_eq_true rfl) ho r
theorem tX4_move_16 {k : Nat} (r : RQ G mX4_move d 17 [some (.ref k), x1, x2, x3, x4] (.ref k :: S) (h) P) : RQ G mX4_move d 16 [some (.ref k), x1, x2, x3, x4] (S) h P := q_aload_n (M := mX4_move) (pc := 16) (r0 := some k) dX4_move_16 rfl rfl r
theorem tX4_move_17 {i : Nat} {vs : List Value} {v : Value} (ha : At h i (.inr (3, vs))) (hv : vs[0]? = some v) (r : RQ G mX4_move d 20 [x0, x1, x2, x3, x4] (v :: S) (h) P) : RQ G mX4_move d 17 [x0, x1, x2, x3, x4] (.ref i :: S) h P := q_get (M := mX4_move) (pc := 17) (kf := 0) dX4_move_17 (show CL[3]? = some (RX4, TX4, 10) from rfl) inA4 (by decide) rfl w151 ha hv r
theorem tX4_move_20 {v : Int32} (r : RQ G mX4_move d 21 [x0, some (.int v), x2, x3, x4] (.int v :: S) (h) P) : RQ G mX4_move d 20 [x0, some (.int v), x2, x3, x4] (S) h P := q_iload_n (M := mX4_move) (pc := 20) dX4_move_20 rfl rfl r
theorem tX4_move_21 {v w : Value} (hv : ok1 (some v) = true := by rfl) (hw : ok1 (some w) = true := by rfl) (r : RQ G mX4_move d 22 [x0, x1, x2, x3, x4] (v :: w :: v :: w :: S) (h) P) : RQ G mX4_move d 21 [x0, x1, x2, x3, x4] (v :: w :: S) h P := q_dup2 (M := mX4_move) (pc := 21) dX4_move_21 hv hw r
theorem tX4_move_22 {a n j : Nat} {x : Int32} {f : Nat → Int32} (ha : At h a (.inl (0, n, .inl f))) (hx : x = nI j) (hj : j < n) (hn : n < 2147483648) (r : RQ G mX4_move d 23 [x0, x1, x2, x3, x4] (.int (f j) :: S) (h) P) : RQ G mX4_move d 22 [x0, x1, x2, x3, x4] (.int x :: .ref a :: S) h P := q_iald (M := mX4_move) (pc := 22) dX4_move_22 ha hx hj hn r
theorem tX4_move_23 {v : Int32} (r : RQ G mX4_move d 25 [x0, x1, x2, x3, some (.int v)] (.int v :: S) (h) P) : RQ G mX4_move d 23 [x0, x1, x2, x3, some (.int v)] (S) h P := q_iload (M := mX4_move) (pc := 23) dX4_move_23 rfl r
theorem tX4_move_25 {x y : Int32} (r : RQ G mX4_move d 26 [x0, x1, x2, x3, x4] (.int (x - y) :: S) (h) P) : RQ G mX4_move d 25 [x0, x1, x2, x3, x4] (.int y :: .int x :: S) h P := q_isub (M := mX4_move) (pc := 25) dX4_move_25 r
theorem tX4_move_26 {a n j : Nat} {x : Int32} {v : Int32} {f : Nat → Int32} (ha : At h a (.inl (0, n, .inl f))) (hx : x = nI j) (hj : j < n) (hn : n < 2147483648) (r : RQ G mX4_move d 27 [x0, x1, x2, x3, x4] (S) (hset h a (.inl (0, n, .inl (upd f j v)))) P) : RQ G mX4_move d 26 [x0, x1, x2, x3, x4] (.int v :: .int x :: .ref a :: S) h P := q_iast (M := mX4_move) (pc := 26) dX4_move_26 ha hx hj hn r
theorem tX4_move_27 {k : Nat} (r : RQ G mX4_move d 28 [some (.ref k), x1, x2, x3, x4] (.ref k :: S) (h) P) : RQ G mX4_move d 27 [some (.ref k), x1, x2, x3, x4] (S) h P := q_aload_n (M := mX4_move) (pc := 27) (r0 := some k) dX4_move_27 rfl rfl r
theorem tX4_move_28 {i : Nat} {vs : List Value} {v : Value} (ha : At h i (.inr (3, vs))) (hv : vs[0]? = some v) (r : RQ G mX4_move d 31 [x0, x1, x2, x3, x4] (v :: S) (h) P) : RQ G mX4_move d 28 [x0, x1, x2, x3, x4] (.ref i :: S) h P := q_get (M := mX4_move) (pc := 28) (kf := 0) dX4_move_28 (show CL[3]? = some (RX4, TX4, 10) from rfl) inA4 (by decide) rfl w151 ha hv r
theorem tX4_move_31 {v : Int32} (r : RQ G mX4_move d 32 [x0, x1, some (.int v), x3, x4] (.int v :: S) (h) P) : RQ G mX4_move d 31 [x0, x1, some (.int v), x3, x4] (S) h P := q_iload_n (M := mX4_move) (pc := 31) dX4_move_31 rfl rfl r
theorem tX4_move_32 {v w : Value} (hv : ok1 (some v) = true := by rfl) (hw : ok1 (some w) = true := by rfl) (r : RQ G mX4_move d 33 [x0, x1, x2, x3, x4] (v :: w :: v :: w :: S) (h) P) : RQ G mX4_move d 32 [x0, x1, x2, x3, x4] (v :: w :: S) h P := q_dup2 (M := mX4_move) (pc := 32) dX4_move_32 hv hw r
theorem tX4_move_33 {a n j : Nat} {x : Int32} {f : Nat → Int32} (ha : At h a (.inl (0, n, .inl f))) (hx : x = nI j) (hj : j < n) (hn : n < 2147483648) (r : RQ G mX4_move d 34 [x0, x1, x2, x3, x4] (.int (f j) :: S) (h) P) : RQ G mX4_move d 33 [x0, x1, x2, x3, x4] (.int x :: .ref a :: S) h P := q_iald (M := mX4_move) (pc := 33) dX4_move_33 ha hx hj hn r
theorem tX4_move_34 {v : Int32} (r : RQ G mX4_move d 36 [x0, x1, x2, x3, some (.int v)] (.int v :: S) (h) P) : RQ G mX4_move d 34 [x0, x1, x2, x3, some (.int v)] (S) h P := q_iload (M := mX4_move) (pc := 34) dX4_move_34 rfl r
theorem tX4_move_36 {x y : Int32} (r : RQ G mX4_move d 37 [x0, x1, x2, x3, x4] (.int (x + y) :: S) (h) P) : RQ G mX4_move d 36 [x0, x1, x2, x3, x4] (.int y :: .int x :: S) h P := q_iadd (M := mX4_move) (pc := 36) dX4_move_36 r
theorem tX4_move_37 {a n j : Nat} {x : Int32} {v : Int32} {f : Nat → Int32} (ha : At h a (.inl (0, n, .inl f))) (hx : x = nI j) (hj : j < n) (hn : n < 2147483648) (r : RQ G mX4_move d 38 [x0, x1, x2, x3, x4] (S) (hset h a (.inl (0, n, .inl (upd f j v)))) P) : RQ G mX4_move d 37 [x0, x1, x2, x3, x4] (.int v :: .int x :: .ref a :: S) h P := q_iast (M := mX4_move) (pc := 37) dX4_move_37 ha hx hj hn r
theorem tX4_move_38 {k : Nat} (r : RQ G mX4_move d 39 [some (.ref k), x1, x2, x3, x4] (.ref k :: S) (h) P) : RQ G mX4_move d 38 [some (.ref k), x1, x2, x3, x4] (S) h P := q_aload_n (M := mX4_move) (pc := 38) (r0 := some k) dX4_move_38 rfl rfl r
theorem tX4_move_39 (r : RQ G mX4_move d 40 [x0, x1, x2, x3, x4] (.int (nI 0) :: S) (h) P) : RQ G mX4_move d 39 [x0, x1, x2, x3, x4] (S) h P := q_iconst (M := mX4_move) (pc := 39) dX4_move_39 (by decide) r
theorem tX4_move_40 {i : Nat} {vs : List Value} {v : Int32} (ha : At h i (.inr (3, vs))) (hlen : vs.length = 10) (hb : v = nI 0 ∨ v = nI 1) (r : RQ G mX4_move d 43 [x0, x1, x2, x3, x4] (S) (hset h i (.inr (3, vs.set 9 (.int v)))) P) : RQ G mX4_move d 40 [x0, x1, x2, x3, x4] (.int v :: .ref i :: S) h P := q_put (M := mX4_move) (pc := 40) (kf := 9) (host := "") dX4_move_40 (show CL[3]? = some (RX4, TX4, 10) from rfl) inA4 tyX4_ok nmX4 (by decide) rfl w176 rfl (tyX4_ok 9 (by decide)) (nfit_bool hb) (by rw [hlen]; decide) ha r
theorem tX4_move_43 {v : Int32} (r : RQ G mX4_move d 45 [x0, x1, x2, x3, some (.int v)] (.int v :: S) (h) P) : RQ G mX4_move d 43 [x0, x1, x2, x3, some (.int v)] (S) h P := q_iload (M := mX4_move) (pc := 43) dX4_move_43 rfl r
theorem tX4_move_45 {x : Int32} (hP : P (.inl (some (.int x))) h) : RQ G mX4_move d 45 [x0, x1, x2, x3, x4] ([.int x]) h P := q_ireturn (M := mX4_move) (pc := 45) (ty := .int) dX4_move_45 rfl rfl hP
end T
theorem dX4_stir_0 : decode cX4_stir 0 = .ok (.iload_n 1, 1) := by decide +kernel
theorem dX4_stir_1 : decode cX4_stir 1 = .ok (.ifCond .le 23, 3) := by decide +kernel
theorem dX4_stir_4 : decode cX4_stir 4 = .ok (.iload_n 1, 1) := by decide +kernel
theorem dX4_stir_5 : decode cX4_stir 5 = .ok (.bipush 6, 2) := by decide +kernel
theorem dX4_stir_7 : decode cX4_stir 7 = .ok (.if_icmp .gt 17, 3) := by decide +kernel
theorem dX4_stir_10 : decode cX4_stir 10 = .ok (.aload_n 0, 1) := by decide +kernel
theorem dX4_stir_11 : decode cX4_stir 11 = .ok (.getfield 9, 3) := by decide +kernel
theorem dX4_stir_14 : decode cX4_stir 14 = .ok (.iload_n 1, 1) := by decide +kernel
theorem dX4_stir_15 : decode cX4_stir 15 = .ok (.iconst 1, 1) := by decide +kernel
theorem dX4_stir_16 : decode cX4_stir 16 = .ok (.isub, 1) := by decide +kernel
theorem dX4_stir_17 : decode cX4_stir 17 = .ok (.iaload, 1) := by decide +kernel
theorem dX4_stir_18 : decode cX4_stir 18 = .ok (.bipush 10, 2) := by decide +kernel
theorem dX4_stir_20 : decode cX4_stir 20 = .ok (.idiv, 1) := by decide +kernel
theorem dX4_stir_21 : decode cX4_stir 21 = .ok (.goto 4, 3) := by decide +kernel
theorem dX4_stir_24 : decode cX4_stir 24 = .ok (.iconst 0, 1) := by decide +kernel
theorem dX4_stir_25 : decode cX4_stir 25 = .ok (.istore_n 2, 1) := by decide +kernel
theorem dX4_stir_26 : decode cX4_stir 26 = .ok (.iconst 0, 1) := by decide +kernel
theorem dX4_stir_27 : decode cX4_stir 27 = .ok (.istore_n 3, 1) := by decide +kernel
theorem dX4_stir_28 : decode cX4_stir 28 = .ok (.iload_n 3, 1) := by decide +kernel
theorem dX4_stir_29 : decode cX4_stir 29 = .ok (.iload_n 1, 1) := by decide +kernel
theorem dX4_stir_30 : decode cX4_stir 30 = .ok (.if_icmp .ge 42, 3) := by decide +kernel
theorem dX4_stir_33 : decode cX4_stir 33 = .ok (.iload_n 3, 1) := by decide +kernel
theorem dX4_stir_34 : decode cX4_stir 34 = .ok (.bipush 6, 2) := by decide +kernel
theorem dX4_stir_36 : decode cX4_stir 36 = .ok (.if_icmp .ge 36, 3) := by decide +kernel
theorem dX4_stir_39 : decode cX4_stir 39 = .ok (.aload_n 0, 1) := by decide +kernel
theorem dX4_stir_40 : decode cX4_stir 40 = .ok (.getfield 9, 3) := by decide +kernel
theorem dX4_stir_43 : decode cX4_stir 43 = .ok (.iload_n 3, 1) := by decide +kernel
theorem dX4_stir_44 : decode cX4_stir 44 = .ok (.iaload, 1) := by decide +kernel
theorem dX4_stir_45 : decode cX4_stir 45 = .ok (.bipush 10, 2) := by decide +kernel
theorem dX4_stir_47 : decode cX4_stir 47 = .ok (.idiv, 1) := by decide +kernel
theorem dX4_stir_48 : decode cX4_stir 48 = .ok (.istore 4, 2) := by decide +kernel
theorem dX4_stir_50 : decode cX4_stir 50 = .ok (.aload_n 0, 1) := by decide +kernel
theorem dX4_stir_51 : decode cX4_stir 51 = .ok (.getfield 9, 3) := by decide +kernel
theorem dX4_stir_54 : decode cX4_stir 54 = .ok (.iload_n 3, 1) := by decide +kernel
theorem dX4_stir_55 : decode cX4_stir 55 = .ok (.dup2, 1) := by decide +kernel
theorem dX4_stir_56 : decode cX4_stir 56 = .ok (.iaload, 1) := by decide +kernel
theorem dX4_stir_57 : decode cX4_stir 57 = .ok (.iload_n 2, 1) := by decide +kernel
theorem dX4_stir_58 : decode cX4_stir 58 = .ok (.iload 4, 2) := by decide +kernel
theorem dX4_stir_60 : decode cX4_stir 60 = .ok (.isub, 1) := by decide +kernel
theorem dX4_stir_61 : decode cX4_stir 61 = .ok (.iadd, 1) := by decide +kernel
theorem dX4_stir_62 : decode cX4_stir 62 = .ok (.iastore, 1) := by decide +kernel
theorem dX4_stir_63 : decode cX4_stir 63 = .ok (.iload 4, 2) := by decide +kernel
theorem dX4_stir_65 : decode cX4_stir 65 = .ok (.istore_n 2, 1) := by decide +kernel
theorem dX4_stir_66 : decode cX4_stir 66 = .ok (.iinc 3 1, 3) := by decide +kernel
theorem dX4_stir_69 : decode cX4_stir 69 = .ok (.goto (-41), 3) := by decide +kernel
theorem dX4_stir_72 : decode cX4_stir 72 = .ok (.aload_n 0, 1) := by decide +kernel
theorem dX4_stir_73 : decode cX4_stir 73 = .ok (.iconst 0, 1) := by decide +kernel
theorem dX4_stir_74 : decode cX4_stir 74 = .ok (.putfield 40, 3) := by decide +kernel
theorem dX4_stir_77 : decode cX4_stir 77 = .ok (.return_, 1) := by decide +kernel
section T
variable {G : GT} {d : Nat} {S : List Value} {h : AH} {P : OC → AH → Prop} {x0 x1 x2 x3 x4 x5 x6 x7 x8 x9 x10 x11 x12 x13 x14 x15 : Option Value}
theorem tX4_stir_0 {v : Int32} (r : RQ G mX4_stir d 1 [x0, some (.int v), x2, x3, x4] (.int v :: S) (h) P) : RQ G mX4_stir d 0 [x0, some (.int v), x2, x3, x4] (S) h P := q_iload_n (M := mX4_stir) (pc := 0) dX4_stir_0 rfl rfl r
theorem tX4_stir_1 {x : Int32} (kt : x ≤ 0 → RQ G mX4_stir d 24 [x0, x1, x2, x3, x4] S h P) (kf : ¬ x ≤ 0 → RQ G mX4_stir d 4 [x0, x1, x2, x3, x4] S h P) : RQ G mX4_stir d 1 [x0, x1, x2, x3, x4] (.int x :: S) h P := q_if_le (M := mX4_stir) (pc := 1) dX4_stir_1 (by decide) kt kf
theorem tX4_stir_4 {v : Int32} (r : RQ G mX4_stir d 5 [x0, some (.int v), x2, x3, x4] (.int v :: S) (h) P) : RQ G mX4_stir d 4 [x0, some (.int v), x2, x3, x4] (S) h P := q_iload_n (M := mX4_stir) (pc := 4) dX4_stir_4 rfl rfl r
theorem tX4_stir_5 (r : RQ G mX4_stir d 7 [x0, x1, x2, x3, x4] (.int (nI 6) :: S) (h) P) : RQ G mX4_stir d 5 [x0, x1, x2, x3, x4] (S) h P := q_bipush (M := mX4_stir) (pc := 5) dX4_stir_5 (by decide) r
theorem tX4_stir_7 {x y : Int32} (kt : y < x → RQ G mX4_stir d 24 [x0, x1, x2, x3, x4] S h P) (kf : ¬ y < x → RQ G mX4_stir d 10 [x0, x1, x2, x3, x4] S h P) : RQ G mX4_stir d 7 [x0, x1, x2, x3, x4] (.int y :: .int x :: S) h P := q_icmp_gt (M := mX4_stir) (pc := 7) dX4_stir_7 (by decide) kt kf
theorem tX4_stir_10 {k : Nat} (r : RQ G mX4_stir d 11 [some (.ref k), x1, x2, x3, x4] (.ref k :: S) (h) P) : RQ G mX4_stir d 10 [some (.ref k), x1, x2, x3, x4] (S) h P := q_aload_n (M := mX4_stir) (pc := 10) (r0 := some k) dX4_stir_10 rfl rfl r
theorem tX4_stir_11 {i : Nat} {vs : List Value} {v : Value} (ha : At h i (.inr (3, vs))) (hv : vs[0]? = some v) (r : RQ G mX4_stir d 14 [x0, x1, x2, x3, x4] (v :: S) (h) P) : RQ G mX4_stir d 11 [x0, x1, x2, x3, x4] (.ref i :: S) h P := q_get (M := mX4_stir) (pc := 11) (kf := 0) dX4_stir_11 (show CL[3]? = some (RX4, TX4, 10) from rfl) inA4 (by decide) rfl w151 ha hv r
theorem tX4_stir_14 {v : Int32} (r : RQ G mX4_stir d 15 [x0, some (.int v), x2, x3, x4] (.int v :: S) (h) P) : RQ G mX4_stir d 14 [x0, some (.int v), x2, x3, x4] (S) h P := q_iload_n (M := mX4_stir) (pc := 14) dX4_stir_14 rfl rfl r
theorem tX4_stir_15 (r : RQ G mX4_stir d 16 [x0, x1, x2, x3, x4] (.int (nI 1) :: S) (h) P) : RQ G mX4_stir d 15 [x0, x1, x2, x3, x4] (S) h P := q_iconst (M := mX4_stir) (pc := 15) dX4_stir_15 (by decide) r
theorem tX4_stir_16 {x y : Int32} (r : RQ G mX4_stir d 17 [x0, x1, x2, x3, x4] (.int (x - y) :: S) (h) P) : RQ G mX4_stir d 16 [x0, x1, x2, x3, x4] (.int y :: .int x :: S) h P := q_isub (M := mX4_stir) (pc := 16) dX4_stir_16 r
theorem tX4_stir_17 {a n j : Nat} {x : Int32} {f : Nat → Int32} (ha : At h a (.inl (0, n, .inl f))) (hx : x = nI j) (hj : j < n) (hn : n < 2147483648) (r : RQ G mX4_stir d 18 [x0, x1, x2, x3, x4] (.int (f j) :: S) (h) P) : RQ G mX4_stir d 17 [x0, x1, x2, x3, x4] (.int x :: .ref a :: S) h P := q_iald (M := mX4_stir) (pc := 17) dX4_stir_17 ha hx hj hn r
theorem tX4_stir_18 (r : RQ G mX4_stir d 20 [x0, x1, x2, x3, x4] (.int (nI 10) :: S) (h) P) : RQ G mX4_stir d 18 [x0, x1, x2, x3, x4] (S) h P := q_bipush (M := mX4_stir) (pc := 18) dX4_stir_18 (by decide) r
theorem tX4_stir_20 {x y : Int32} (hne : ¬ y = 0) (r : RQ G mX4_stir d 21 [x0, x1, x2, x3, x4] (.int (x / y) :: S) (h) P) : RQ G mX4_stir d 20 [x0, x1, x2, x3, x4] (.int y :: .int x :: S) h P := q_idiv (M := mX4_stir) (pc := 20) dX4_stir_20 hne r
theorem tX4_stir_21 (r : RQ G mX4_stir d 25 [x0, x1, x2, x3, x4] S h P) : RQ G mX4_stir d 21 [x0, x1, x2, x3, x4] (S) h P := q_goto (M := mX4_stir) (pc := 21) dX4_stir_21 (by decide) r
theorem tX4_stir_24 (r : RQ G mX4_stir d 25 [x0, x1, x2, x3, x4] (.int (nI 0) :: S) (h) P) : RQ G mX4_stir d 24 [x0, x1, x2, x3, x4] (S) h P := q_iconst (M := mX4_stir) (pc := 24) dX4_stir_24 (by decide) r
theorem tX4_stir_25 {v : Int32} (ho : ok1 x1 = true := by rfl) (r : RQ G mX4_stir d 26 [x0, x1, some (.int v), x3, x4] (S) (h) P) : RQ G mX4_stir d 25 [x0, x1, x2, x3, x4] (.int v :: S) h P := q_istore_n (M := mX4_stir) (pc := 25) dX4_stir_25 rfl (Nat.le_of_ble_eq_true rfl) ho r
theorem tX4_stir_26 (r : RQ G mX4_stir d 27 [x0, x1, x2, x3, x4] (.int (nI 0) :: S) (h) P) : RQ G mX4_stir d 26 [x0, x1, x2, x3, x4] (S) h P := q_iconst (M := mX4_stir) (pc := 26) dX4_stir_26 (by decide) r
theorem tX4_stir_27 {v : Int32} (ho : ok1 x2 = true := by rfl) (r : RQ G mX4_stir d 28 [x0, x1, x2, some (.int v), x4] (S) (h) P) : RQ G mX4_stir d 27 [x0, x1, x2, x3, x4] (.int v :: S) h P := q_istore_n (M := mX4_stir) (pc := 27) dX4_stir_27 rfl (Nat.le_of_ble_eq_true rfl) ho r
theorem tX4_stir_28 {v : Int32} (r : RQ G mX4_stir d 29 [x0, x1, x2, some (.int v), x4] (.int v :: S) (h) P) : RQ G mX4_stir d 28 [x0, x1, x2, some (.int v), x4] (S) h P := q_iload_n (M := mX4_stir) (pc := 28) dX4_stir_28 rfl rfl r
theorem tX4_stir_29 {v : Int32} (r : RQ G mX4_stir d 30 [x0, some (.int v), x2, x3, x4] (.int v :: S) (h) P) : RQ G mX4_stir d 29 [x0, some (.int v), x2, x3, x4] (S) h P := q_iload_n (M := mX4_stir) (pc := 29) dX4_stir_29 rfl rfl r
theorem tX4_stir_30 {x y : Int32} (kt : y ≤ x → RQ G mX4_stir d 72 [x0, x1, x2, x3, x4] S h P) (kf : ¬ y ≤ x → RQ G mX4_stir d 33 [x0, x1, x2, x3, x4] S h P) : RQ G mX4_stir d 30 [x0, x1, x2, x3, x4] (.int y :: .int x :: S) h P := q_icmp_ge (M := mX4_stir) (pc := 30) dX4_stir_30 (by decide) kt kf
theorem tX4_stir_33 {v : Int32} (r : RQ G mX4_stir d 34 [x0, x1, x2, some (.int v), x4] (.int v :: S) (h) P) : RQ G mX4_stir d 33 [x0, x1, x2, some (.int v), x4] (S) h P := q_iload_n (M := mX4_stir) (pc := 33) dX4_stir_33 rfl rfl r
theorem tX4_stir_34 (r : RQ G mX4_stir d 36 [x0, x1, x2, x3, x4] (.int (nI 6) :: S) (h) P) : RQ G mX4_stir d 34 [x0, x1, x2, x3, x4] (S) h P := q_bipush (M := mX4_stir) (pc := 34) dX4_stir_34 (by decide) r
theorem tX4_stir_36 {x y : Int32} (kt : y ≤ x → RQ G mX4_stir d 72 [x0, x1, x2, x3, x4] S h P) (kf : ¬ y ≤ x → RQ G mX4_stir d 39 [x0, x1, x2, x3, x4] S h P) : RQ G mX4_stir d 36 [x0, x1, x2, x3, x4] (.int y :: .int x :: S) h P := q_icmp_ge (M := mX4_stir) (pc := 36) dX4_stir_36 (by decide) kt kf
theorem tX4_stir_39 {k : Nat} (r : RQ G mX4_stir d 40 [some (.ref k), x1, x2, x3, x4] (.ref k :: S) (h) P) : RQ G mX4_stir d 39 [some (.ref k), x1, x2, x3, x4] (S) h P := q_aload_n (M := mX4_stir) (pc := 39) (r0 := some k) dX4_stir_39 rfl rfl r
theorem tX4_stir_40 {i : Nat} {vs : List Value} {v : Value} (ha : At h i (.inr (3, vs))) (hv : vs[0]? = some v) (r : RQ G mX4_stir d 43 [x0, x1, x2, x3, x4] (v :: S) (h) P) : RQ G mX4_stir d 40 [x0, x1, x2, x3, x4] (.ref i :: S) h P := q_get (M := mX4_stir) (pc := 40) (kf := 0) dX4_stir_40 (show CL[3]? = some (RX4, TX4, 10) from rfl) inA4 (by decide) rfl w151 ha hv r
theorem tX4_stir_43 {v : Int32} (r : RQ G mX4_stir d 44 [x0, x1, x2, some (.int v), x4] (.int v :: S) (h) P) : RQ G mX4_stir d 43 [x0, x1, x2, some (.int v), x4] (S) h P := q_iload_n (M := mX4_stir) (pc := 43) dX4_stir_43 rfl rfl r
theorem tX4_stir_44 {a n j : Nat} {x : Int32} {f : Nat → Int32} (ha : At h a (.inl (0, n, .inl f))) (hx : x = nI j) (hj : j < n) (hn : n < 2147483648) (r : RQ G mX4_stir d 45 [x0, x1, x2, x3, x4] (.int (f j) :: S) (h) P) : RQ G mX4_stir d 44 [x0, x1, x2, x3, x4] (.int x :: .ref a :: S) h P := q_iald (M := mX4_stir) (pc := 44) dX4_stir_44 ha hx hj hn r
theorem tX4_stir_45 (r : RQ G mX4_stir d 47 [x0, x1, x2, x3, x4] (.int (nI 10) :: S) (h) P) : RQ G mX4_stir d 45 [x0, x1, x2, x3, x4] (S) h P := q_bipush (M := mX4_stir) (pc := 45) dX4_stir_45 (by decide) r
theorem tX4_stir_47 {x y : Int32} (hne : ¬ y = 0) (r : RQ G mX4_stir d 48 [x0, x1, x2, x3, x4] (.int (x / y) :: S) (h) P) : RQ G mX4_stir d 47 [x0, x1, x2, x3, x4] (.int y :: .int x :: S) h P := q_idiv (M := mX4_stir) (pc := 47) dX4_stir_47 hne r
theorem tX4_stir_48 {v : Int32} (ho : ok1 x3 = true := by rfl) (r : RQ G mX4_stir d 50 [x0, x1, x2, x3, some (.int v)] (S) (h) P) : RQ G mX4_stir d 48 [x0, x1, x2, x3, x4] (.int v :: S) h P := q_istore (M := mX4_stir) (pc := 48) dX4_stir_48 (Nat.le_of_ble_eq_true rfl) ho r
theorem tX4_stir_50 {k : Nat} (r : RQ G mX4_stir d 51 [some (.ref k), x1, x2, x3, x4] (.ref k :: S) (h) P) : RQ G mX4_stir d 50 [some (.ref k), x1, x2, x3, x4] (S) h P := q_aload_n (M := mX4_stir) (pc := 50) (r0 := some k) dX4_stir_50 rfl rfl r
theorem tX4_stir_51 {i : Nat} {vs : List Value} {v : Value} (ha : At h i (.inr (3, vs))) (hv : vs[0]? = some v) (r : RQ G mX4_stir d 54 [x0, x1, x2, x3, x4] (v :: S) (h) P) : RQ G mX4_stir d 51 [x0, x1, x2, x3, x4] (.ref i :: S) h P := q_get (M := mX4_stir) (pc := 51) (kf := 0) dX4_stir_51 (show CL[3]? = some (RX4, TX4, 10) from rfl) inA4 (by decide) rfl w151 ha hv r
theorem tX4_stir_54 {v : Int32} (r : RQ G mX4_stir d 55 [x0, x1, x2, some (.int v), x4] (.int v :: S) (h) P) : RQ G mX4_stir d 54 [x0, x1, x2, some (.int v), x4] (S) h P := q_iload_n (M := mX4_stir) (pc := 54) dX4_stir_54 rfl rfl r
theorem tX4_stir_55 {v w : Value} (hv : ok1 (some v) = true := by rfl) (hw : ok1 (some w) = true := by rfl) (r : RQ G mX4_stir d 56 [x0, x1, x2, x3, x4] (v :: w :: v :: w :: S) (h) P) : RQ G mX4_stir d 55 [x0, x1, x2, x3, x4] (v :: w :: S) h P := q_dup2 (M := mX4_stir) (pc := 55) dX4_stir_55 hv hw r
theorem tX4_stir_56 {a n j : Nat} {x : Int32} {f : Nat → Int32} (ha : At h a (.inl (0, n, .inl f))) (hx : x = nI j) (hj : j < n) (hn : n < 2147483648) (r : RQ G mX4_stir d 57 [x0, x1, x2, x3, x4] (.int (f j) :: S) (h) P) : RQ G mX4_stir d 56 [x0, x1, x2, x3, x4] (.int x :: .ref a :: S) h P := q_iald (M := mX4_stir) (pc := 56) dX4_stir_56 ha hx hj hn r
theorem tX4_stir_57 {v : Int32} (r : RQ G mX4_stir d 58 [x0, x1, some (.int v), x3, x4] (.int v :: S) (h) P) : RQ G mX4_stir d 57 [x0, x1, some (.int v), x3, x4] (S) h P := q_iload_n (M := mX4_stir) (pc := 57) dX4_stir_57 rfl rfl r
theorem tX4_stir_58 {v : Int32} (r : RQ G mX4_stir d 60 [x0, x1, x2, x3, some (.int v)] (.int v :: S) (h) P) : RQ G mX4_stir d 58 [x0, x1, x2, x3, some (.int v)] (S) h P := q_iload (M := mX4_stir) (pc := 58) dX4_stir_58 rfl r
theorem tX4_stir_60 {x y : Int32} (r : RQ G mX4_stir d 61 [x0, x1, x2, x3, x4] (.int (x - y) :: S) (h) P) : RQ G mX4_stir d 60 [x0, x1, x2, x3, x4] (.int y :: .int x :: S) h P := q_isub (M := mX4_stir) (pc := 60) dX4_stir_60 r
theorem tX4_stir_61 {x y : Int32} (r : RQ G mX4_stir d 62 [x0, x1, x2, x3, x4] (.int (x + y) :: S) (h) P) : RQ G mX4_stir d 61 [x0, x1, x2, x3, x4] (.int y :: .int x :: S) h P := q_iadd (M := mX4_stir) (pc := 61) dX4_stir_61 r
theorem tX4_stir_62 {a n j : Nat} {x : Int32} {v : Int32} {f : Nat → Int32} (ha : At h a (.inl (0, n, .inl f))) (hx : x = nI j) (hj : j < n) (hn : n < 2147483648) (r : RQ G mX4_stir d 63 [x0, x1, x2, x3, x4] (S) (hset h a (.inl (0, n, .inl (upd f j v)))) P) : RQ G mX4_stir d 62 [x0, x1, x2, x3, x4] (.int v :: .int x :: .ref a :: S) h P := q_iast (M := mX4_stir) (pc := 62) dX4_stir_62 ha hx hj hn r
theorem tX4_stir_63 {v : Int32} (r : RQ G mX4_stir d 65 [x0, x1, x2, x3, some (.int v)] (.int v :: S) (h) P) : RQ G mX4_stir d 63 [x0, x1, x2, x3, some (.int v)] (S) h P := q_iload (M := mX4_stir) (pc := 63) dX4_stir_63 rfl r
theorem tX4_stir_65 {v : Int32} (ho : ok1 x1 = true := by rfl) (r : RQ G mX4_stir d 66 [x0, x1, some (.int v), x3, x4] (S) (h) P) : RQ G mX4_stir d 65 [x0, x1, x2, x3, x4] (.int v :: S) h P := q_istore_n (M := mX4_stir) (pc := 65) dX4_stir_65 rfl (Nat.le_of_ble_eq_true rfl) ho r
theorem tX4_stir_66 {v : Int32} (ho : ok1 x2 = true := by rfl) (r : RQ G mX4_stir d 69 [x0, x1, x2, some (.int (v + (nI 1))), x4] (S) (h) P) : RQ G mX4_stir d 66 [x0, x1, x2, some (.int v), x4] (S) h P := q_iinc (M := mX4_stir) (pc := 66) dX4_stir_66 rfl (congrArg (v + ·) (show Int32.ofInt (1) = (nI 1) by decide)) (Nat.le_of_ble_eq_true rfl) ho r
theorem tX4_stir_69 (r : RQ G mX4_stir d 28 [x0, x1, x2, x3, x4] S h P) : RQ G mX4_stir d 69 [x0, x1, x2, x3, x4] (S) h P := q_goto (M := mX4_stir) (pc := 69) dX4_stir_69 (by decide) r
theorem tX4_stir_72 {k : Nat} (r : RQ G mX4_stir d 73 [some (.ref k), x1, x2, x3, x4] (.ref k :: S) (h) P) : RQ G mX4_stir d 72 [some (.ref k), x1, x2, x3, x4] (S) h P := q_aload_n (M := mX4_stir) (pc := 72) (r0 := some k) dX4_stir_72 rfl rfl r
theorem tX4_stir_73 (r : RQ G mX4_stir d 74 [x0, x1, x2, x3, x4] (.int (nI 0) :: S) (h) P) : RQ G mX4_stir d 73 [x0, x1, x2, x3, x4] (S) h P := q_iconst (M := mX4_stir) (pc := 73) dX4_stir_73 (by decide) r
theorem tX4_stir_74 {i : Nat} {vs : List Value} {v : Int32} (ha : At h i (.inr (3, vs))) (hlen : vs.length = 10) (hb : v = nI 0 ∨ v = nI 1) (r : RQ G mX4_stir d 77 [x0, x1, x2, x3, x4] (S) (hset h i (.inr (3, vs.set 9 (.int v)))) P) : RQ G mX4_stir d 74 [x0, x1, x2, x3, x4] (.int v :: .ref i :: S) h P := q_put (M := mX4_stir) (pc := 74) (kf := 9) (host := "") dX4_stir_74 (show CL[3]? = some (RX4, TX4, 10) from rfl) inA4 tyX4_ok nmX4 (by decide) rfl w176 rfl (tyX4_ok 9 (by decide)) (nfit_bool hb) (by rw [hlen]; decide) ha r
theorem tX4_stir_77 (hP : P (.inl none) h) : RQ G mX4_stir d 77 [x0, x1, x2, x3, x4] ([]) h P := q_return (M := mX4_stir) (pc := 77) dX4_stir_77 rfl hP
end T
theorem dX4_count_0 : decode cX4_count 0 = .ok (.aload_n 0, 1) := by decide +kernel
theorem dX4_count_1 : decode cX4_count 1 = .ok (.getfield 40, 3) := by decide +kernel
theorem dX4_count_4 : decode cX4_count 4 = .ok (.ifCond .eq 4, 3) := by decide +kernel
theorem dX4_count_7 : decode cX4_count 7 = .ok (.return_, 1) := by decide +kernel
theorem dX4_count_8 : decode cX4_count 8 = .ok (.aload_n 0, 1) := by decide +kernel
theorem dX4_count_9 : decode cX4_count 9 = .ok (.iconst 1, 1) := by decide +kernel
theorem dX4_count_10 : decode cX4_count 10 = .ok (.putfield 40, 3) := by decide +kernel
theorem dX4_count_13 : decode cX4_count 13 = .ok (.aload_n 0, 1) := by decide +kernel
theorem dX4_count_14 : decode cX4_count 14 = .ok (.aload_n 1, 1) := by decide +kernel
theorem dX4_count_15 : decode cX4_count 15 = .ok (.invokevirtual 53, 3) := by decide +kernel
theorem dX4_count_18 : decode cX4_count 18 = .ok (.aload_n 0, 1) := by decide +kernel
theorem dX4_count_19 : decode cX4_count 19 = .ok (.invokevirtual 57, 3) := by decide +kernel
theorem dX4_count_22 : decode cX4_count 22 = .ok (.aload_n 0, 1) := by decide +kernel
theorem dX4_count_23 : decode cX4_count 23 = .ok (.getfield 33, 3) := by decide +kernel
theorem dX4_count_26 : decode cX4_count 26 = .ok (.iconst (-1), 1) := by decide +kernel
theorem dX4_count_27 : decode cX4_count 27 = .ok (.if_icmp .ne 4, 3) := by decide +kernel
theorem dX4_count_30 : decode cX4_count 30 = .ok (.return_, 1) := by decide +kernel
theorem dX4_count_31 : decode cX4_count 31 = .ok (.aload_n 0, 1) := by decide +kernel
theorem dX4_count_32 : decode cX4_count 32 = .ok (.getfield 30, 3) := by decide +kernel
theorem dX4_count_35 : decode cX4_count 35 = .ok (.getstatic 24, 3) := by decide +kernel
theorem dX4_count_38 : decode cX4_count 38 = .ok (.if_acmp .ne 19, 3) := by decide +kernel
theorem dX4_count_41 : decode cX4_count 41 = .ok (.aload_n 0, 1) := by decide +kernel
theorem dX4_count_42 : decode cX4_count 42 = .ok (.getfield 18, 3) := by decide +kernel
theorem dX4_count_45 : decode cX4_count 45 = .ok (.aload_n 0, 1) := by decide +kernel
theorem dX4_count_46 : decode cX4_count 46 = .ok (.getfield 33, 3) := by decide +kernel
theorem dX4_count_49 : decode cX4_count 49 = .ok (.aload_n 0, 1) := by decide +kernel
theorem dX4_count_50 : decode cX4_count 50 = .ok (.getfield 37, 3) := by decide +kernel
theorem dX4_count_53 : decode cX4_count 53 = .ok (.iastore, 1) := by decide +kernel
theorem dX4_count_54 : decode cX4_count 54 = .ok (.goto 24, 3) := by decide +kernel
theorem dX4_count_57 : decode cX4_count 57 = .ok (.aload_n 0, 1) := by decide +kernel
theorem dX4_count_58 : decode cX4_count 58 = .ok (.getfield 30, 3) := by decide +kernel
theorem dX4_count_61 : decode cX4_count 61 = .ok (.getstatic 60, 3) := by decide +kernel
theorem dX4_count_64 : decode cX4_count 64 = .ok (.if_acmp .ne 10, 3) := by decide +kernel
theorem dX4_count_67 : decode cX4_count 67 = .ok (.aload_n 0, 1) := by decide +kernel
theorem dX4_count_68 : decode cX4_count 68 = .ok (.invokevirtual 63, 3) := by decide +kernel
theorem dX4_count_71 : decode cX4_count 71 = .ok (.goto 7, 3) := by decide +kernel
theorem dX4_count_74 : decode cX4_count 74 = .ok (.aload_n 0, 1) := by decide +kernel
theorem dX4_count_75 : decode cX4_count 75 = .ok (.invokevirtual 66, 3) := by decide +kernel
theorem dX4_count_78 : decode cX4_count 78 = .ok (.return_, 1) := by decide +kernel
section T
variable {G : GT} {d : Nat} {S : List Value} {h : AH} {P : OC → AH → Prop} {x0 x1 x2 x3 x4 x5 x6 x7 x8 x9 x10 x11 x12 x13 x14 x15 : Option Value}
theorem tX4_count_0 {k : Nat} (r : RQ G mX4_count d 1 [some (.ref k), x1] (.ref k :: S) (h) P) : RQ G mX4_count d 0 [some (.ref k), x1] (S) h P := q_aload_n (M := mX4_count) (pc := 0) (r0 := some k) dX4_count_0 rfl rfl r
theorem tX4_count_1 {i : Nat} {vs : List Value} {v : Value} (ha : At h i (.inr (3, vs))) (hv : vs[9]? = some v) (r : RQ G mX4_count d 4 [x0, x1] (v :: S) (h) P) : RQ G mX4_count d 1 [x0, x1] (.ref i :: S) h P := q_get (M := mX4_count) (pc := 1) (kf := 9) dX4_count_1 (show CL[3]? = some (RX4, TX4, 10) from rfl) inA4 (by decide) rfl w176 ha hv r
theorem tX4_count_4 {x : Int32} (kt : x = 0 → RQ G mX4_count d 8 [x0, x1] S h P) (kf : ¬ x = 0 → RQ G mX4_count d 7 [x0, x1] S h P) : RQ G mX4_count d 4 [x0, x1] (.int x :: S) h P := q_if_eq (M := mX4_count) (pc := 4) dX4_count_4 (by decide) kt kf
theorem tX4_count_7 (hP : P (.inl none) h) : RQ G mX4_count d 7 [x0, x1] ([]) h P := q_return (M := mX4_count) (pc := 7) dX4_count_7 rfl hP
theorem tX4_count_8 {k : Nat} (r : RQ G mX4_count d 9 [some (.ref k), x1] (.ref k :: S) (h) P) : RQ G mX4_count d 8 [some (.ref k), x1] (S) h P := q_aload_n (M := mX4_count) (pc := 8) (r0 := some k) dX4_count_8 rfl rfl r
theorem tX4_count_9 (r : RQ G mX4_count d 10 [x0, x1] (.int (nI 1) :: S) (h) P) : RQ G mX4_count d 9 [x0, x1] (S) h P := q_iconst (M := mX4_count) (pc := 9) dX4_count_9 (by decide) r
theorem tX4_count_10 {i : Nat} {vs : List Value} {v : Int32} (ha : At h i (.inr (3, vs))) (hlen : vs.length = 10) (hb : v = nI 0 ∨ v = nI 1) (r : RQ G mX4_count d 13 [x0, x1] (S) (hset h i (.inr (3, vs.set 9 (.int v)))) P) : RQ G mX4_count d 10 [x0, x1] (.int v :: .ref i :: S) h P := q_put (M := mX4_count) (pc := 10) (kf := 9) (host := "") dX4_count_10 (show CL[3]? = some (RX4, TX4, 10) from rfl) inA4 tyX4_ok nmX4 (by decide) rfl w176 rfl (tyX4_ok 9 (by decide)) (nfit_bool hb) (by rw [hlen]; decide) ha r
theorem tX4_count_13 {k : Nat} (r : RQ G mX4_count d 14 [some (.ref k), x1] (.ref k :: S) (h) P) : RQ G mX4_count d 13 [some (.ref k), x1] (S) h P := q_aload_n (M := mX4_count) (pc := 13) (r0 := some k) dX4_count_13 rfl rfl r
theorem tX4_count_14 {k : Nat} (r : RQ G mX4_count d 15 [x0, some (.ref k)] (.ref k :: S) (h) P) : RQ G mX4_count d 14 [x0, some (.ref k)] (S) h P := q_aload_n (M := mX4_count) (pc := 14) (r0 := some k) dX4_count_14 rfl rfl r
theorem tX4_count_15 {b d2 : Nat} {vs : List Value} {a0 : Nat} {Q : AH → Prop} (hd : d2 + 1 ≤ d) (ha : At h b (.inr (3, vs))) (call : RQ G mX4_pool d2 0 [some (.ref b), some (.ref a0), none] [] h (Rv Q)) (k : ∀ h1, Q h1 → RQ G mX4_count d 18 [x0, x1] S h1 P) (hst : (S.map fun v => v.category).sum ≤ 8 := by exact Nat.le_of_ble_eq_true rfl)  : RQ G mX4_count d 15 [x0, x1] (.ref a0 :: .ref b :: S) h P := q_callV (M := mX4_count) (pc := 15) (M2 := mX4_pool) (As := [.ref a0]) (n := 1) dX4_count_15 rfl ⟨by decide, by decide, by decide, rfl⟩ rfl w478 w480 w3 w47 w481 (show CL[3]? = some (RX4, TX4, 10) from rfl) hd (by decide) (Nat.le_of_ble_eq_true rfl) rfl ha hst call (callk_v k)
theorem tX4_count_18 {k : Nat} (r : RQ G mX4_count d 19 [some (.ref k), x1] (.ref k :: S) (h) P) : RQ G mX4_count d 18 [some (.ref k), x1] (S) h P := q_aload_n (M := mX4_count) (pc := 18) (r0 := some k) dX4_count_18 rfl rfl r
theorem tX4_count_19 {b d2 : Nat} {vs : List Value}  {Q : AH → Prop} (hd : d2 + 1 ≤ d) (ha : At h b (.inr (3, vs))) (call : RQ G mX4_findFirst d2 0 [some (.ref b), none, none, none] [] h (Rv Q)) (k : ∀ h1, Q h1 → RQ G mX4_count d 22 [x0, x1] S h1 P) (hst : (S.map fun v => v.category).sum ≤ 8 := by exact Nat.le_of_ble_eq_true rfl)  : RQ G mX4_count d 19 [x0, x1] (.ref b :: S) h P := q_callV (M := mX4_count) (pc := 19) (M2 := mX4_findFirst) (As := []) (n := 0) dX4_count_19 rfl ⟨by decide, by decide, by decide, rfl⟩ rfl w482 w484 w4 w47 w485 (show CL[3]? = some (RX4, TX4, 10) from rfl) hd (by decide) (Nat.le_of_ble_eq_true rfl) rfl ha hst call (callk_v k)
theorem tX4_count_22 {k : Nat} (r : RQ G mX4_count d 23 [some (.ref k), x1] (.ref k :: S) (h) P) : RQ G mX4_count d 22 [some (.ref k), x1] (S) h P := q_aload_n (M := mX4_count) (pc := 22) (r0 := some k) dX4_count_22 rfl rfl r
theorem tX4_count_23 {i : Nat} {vs : List Value} {v : Value} (ha : At h i (.inr (3, vs))) (hv : vs[7]? = some v) (r : RQ G mX4_count d 26 [x0, x1] (v :: S) (h) P) : RQ G mX4_count d 23 [x0, x1] (.ref i :: S) h P := q_get (M := mX4_count) (pc := 23) (kf := 7) dX4_count_23 (show CL[3]? = some (RX4, TX4, 10) from rfl) inA4 (by decide) rfl w170 ha hv r
theorem tX4_count_26 (r : RQ G mX4_count d 27 [x0, x1] (.int (-1) :: S) (h) P) : RQ G mX4_count d 26 [x0, x1] (S) h P := q_iconst (M := mX4_count) (pc := 26) dX4_count_26 (by decide) r
theorem tX4_count_27 {x y : Int32} (kt : ¬ x = y → RQ G mX4_count d 31 [x0, x1] S h P) (kf : x = y → RQ G mX4_count d 30 [x0, x1] S h P) : RQ G mX4_count d 27 [x0, x1] (.int y :: .int x :: S) h P := q_icmp_ne (M := mX4_count) (pc := 27) dX4_count_27 (by decide) kt kf
theorem tX4_count_30 (hP : P (.inl none) h) : RQ G mX4_count d 30 [x0, x1] ([]) h P := q_return (M := mX4_count) (pc := 30) dX4_count_30 rfl hP
theorem tX4_count_31 {k : Nat} (r : RQ G mX4_count d 32 [some (.ref k), x1] (.ref k :: S) (h) P) : RQ G mX4_count d 31 [some (.ref k), x1] (S) h P := q_aload_n (M := mX4_count) (pc := 31) (r0 := some k) dX4_count_31 rfl rfl r
theorem tX4_count_32 {i : Nat} {vs : List Value} {v : Value} (ha : At h i (.inr (3, vs))) (hv : vs[5]? = some v) (r : RQ G mX4_count d 35 [x0, x1] (v :: S) (h) P) : RQ G mX4_count d 32 [x0, x1] (.ref i :: S) h P := q_get (M := mX4_count) (pc := 32) (kf := 5) dX4_count_32 (show CL[3]? = some (RX4, TX4, 10) from rfl) inA4 (by decide) rfl w165 ha hv r
theorem tX4_count_35 (r : RQ G mX4_count d 38 [x0, x1] (.ref (OLD + 24) :: S) (h) P) : RQ G mX4_count d 35 [x0, x1] (S) h P := q_getE (M := mX4_count) (pc := 35) (i := 24) dX4_count_35 (by decide) w149 r
theorem tX4_count_38 {i j : Nat} (hi : i < 43) (hj : j < 43) (kt : ¬ i = j → RQ G mX4_count d 57 [x0, x1] S h P) (kf : i = j → RQ G mX4_count d 41 [x0, x1] S h P) : RQ G mX4_count d 38 [x0, x1] (.ref (OLD + j) :: .ref (OLD + i) :: S) h P := q_acmp_ne (M := mX4_count) (pc := 38) dX4_count_38 (by decide) hi hj kt kf
theorem tX4_count_41 {k : Nat} (r : RQ G mX4_count d 42 [some (.ref k), x1] (.ref k :: S) (h) P) : RQ G mX4_count d 41 [some (.ref k), x1] (S) h P := q_aload_n (M := mX4_count) (pc := 41) (r0 := some k) dX4_count_41 rfl rfl r
theorem tX4_count_42 {i : Nat} {vs : List Value} {v : Value} (ha : At h i (.inr (3, vs))) (hv : vs[2]? = some v) (r : RQ G mX4_count d 45 [x0, x1] (v :: S) (h) P) : RQ G mX4_count d 42 [x0, x1] (.ref i :: S) h P := q_get (M := mX4_count) (pc := 42) (kf := 2) dX4_count_42 (show CL[3]? = some (RX4, TX4, 10) from rfl) inA4 (by decide) rfl w157 ha hv r
theorem tX4_count_45 {k : Nat} (r : RQ G mX4_count d 46 [some (.ref k), x1] (.ref k :: S) (h) P) : RQ G mX4_count d 45 [some (.ref k), x1] (S) h P := q_aload_n (M := mX4_count) (pc := 45) (r0 := some k) dX4_count_45 rfl rfl r
theorem tX4_count_46 {i : Nat} {vs : List Value} {v : Value} (ha : At h i (.inr (3, vs))) (hv : vs[7]? = some v) (r : RQ G mX4_count d 49 [x0, x1] (v :: S) (h) P) : RQ G mX4_count d 46 [x0, x1] (.ref i :: S) h P := q_get (M := mX4_count) (pc := 46) (kf := 7) dX4_count_46 (show CL[3]? = some (RX4, TX4, 10) from rfl) inA4 (by decide) rfl w170 ha hv r
theorem tX4_count_49 {k : Nat} (r : RQ G mX4_count d 50 [some (.ref k), x1] (.ref k :: S) (h) P) : RQ G mX4_count d 49 [some (.ref k), x1] (S) h P := q_aload_n (M := mX4_count) (pc := 49) (r0 := some k) dX4_count_49 rfl rfl r
theorem tX4_count_50 {i : Nat} {vs : List Value} {v : Value} (ha : At h i (.inr (3, vs))) (hv : vs[4]? = some v) (r : RQ G mX4_count d 53 [x0, x1] (v :: S) (h) P) : RQ G mX4_count d 50 [x0, x1] (.ref i :: S) h P := q_get (M := mX4_count) (pc := 50) (kf := 4) dX4_count_50 (show CL[3]? = some (RX4, TX4, 10) from rfl) inA4 (by decide) rfl w161 ha hv r
theorem tX4_count_53 {a n j : Nat} {x : Int32} {v : Int32} {f : Nat → Int32} (ha : At h a (.inl (0, n, .inl f))) (hx : x = nI j) (hj : j < n) (hn : n < 2147483648) (r : RQ G mX4_count d 54 [x0, x1] (S) (hset h a (.inl (0, n, .inl (upd f j v)))) P) : RQ G mX4_count d 53 [x0, x1] (.int v :: .int x :: .ref a :: S) h P := q_iast (M := mX4_count) (pc := 53) dX4_count_53 ha hx hj hn r
theorem tX4_count_54 (r : RQ G mX4_count d 78 [x0, x1] S h P) : RQ G mX4_count d 54 [x0, x1] (S) h P := q_goto (M := mX4_count) (pc := 54) dX4_count_54 (by decide) r
theorem tX4_count_57 {k : Nat} (r : RQ G mX4_count d 58 [some (.ref k), x1] (.ref k :: S) (h) P) : RQ G mX4_count d 57 [some (.ref k), x1] (S) h P := q_aload_n (M := mX4_count) (pc := 57) (r0 := some k) dX4_count_57 rfl rfl r
theorem tX4_count_58 {i : Nat} {vs : List Value} {v : Value} (ha : At h i (.inr (3, vs))) (hv : vs[5]? = some v) (r : RQ G mX4_count d 61 [x0, x1] (v :: S) (h) P) : RQ G mX4_count d 58 [x0, x1] (.ref i :: S) h P := q_get (M := mX4_count) (pc := 58) (kf := 5) dX4_count_58 (show CL[3]? = some (RX4, TX4, 10) from rfl) inA4 (by decide) rfl w165 ha hv r
theorem tX4_count_61 (r : RQ G mX4_count d 64 [x0, x1] (.ref (OLD + 25) :: S) (h) P) : RQ G mX4_count d 61 [x0, x1] (S) h P := q_getE (M := mX4_count) (pc := 61) (i := 25) dX4_count_61 (by decide) w486 r
theorem tX4_count_64 {i j : Nat} (hi : i < 43) (hj : j < 43) (kt : ¬ i = j → RQ G mX4_count d 74 [x0, x1] S h P) (kf : i = j → RQ G mX4_count d 67 [x0, x1] S h P) : RQ G mX4_count d 64 [x0, x1] (.ref (OLD + j) :: .ref (OLD + i) :: S) h P := q_acmp_ne (M := mX4_count) (pc := 64) dX4_count_64 (by decide) hi hj kt kf
theorem tX4_count_67 {k : Nat} (r : RQ G mX4_count d 68 [some (.ref k), x1] (.ref k :: S) (h) P) : RQ G mX4_count d 67 [some (.ref k), x1] (S) h P := q_aload_n (M := mX4_count) (pc := 67) (r0 := some k) dX4_count_67 rfl rfl r
theorem tX4_count_68 {b d2 : Nat} {vs : List Value}  {Q : AH → Prop} (hd : d2 + 1 ≤ d) (ha : At h b (.inr (3, vs))) (call : RQ G mX4_divideSeats d2 0 [some (.ref b), none, none, none, none, none] [] h (Rv Q)) (k : ∀ h1, Q h1 → RQ G mX4_count d 71 [x0, x1] S h1 P) (hst : (S.map fun v => v.category).sum ≤ 8 := by exact Nat.le_of_ble_eq_true rfl)  : RQ G mX4_count d 68 [x0, x1] (.ref b :: S) h P := q_callV (M := mX4_count) (pc := 68) (M2 := mX4_divideSeats) (As := []) (n := 0) dX4_count_68 rfl ⟨by decide, by decide, by decide, rfl⟩ rfl w488 w490 w5 w47 w491 (show CL[3]? = some (RX4, TX4, 10) from rfl) hd (by decide) (Nat.le_of_ble_eq_true rfl) rfl ha hst call (callk_v k)
theorem tX4_count_71 (r : RQ G mX4_count d 78 [x0, x1] S h P) : RQ G mX4_count d 71 [x0, x1] (S) h P := q_goto (M := mX4_count) (pc := 71) dX4_count_71 (by decide) r
theorem tX4_count_74 {k : Nat} (r : RQ G mX4_count d 75 [some (.ref k), x1] (.ref k :: S) (h) P) : RQ G mX4_count d 74 [some (.ref k), x1] (S) h P := q_aload_n (M := mX4_count) (pc := 74) (r0 := some k) dX4_count_74 rfl rfl r
theorem tX4_count_75 {b d2 : Nat} {vs : List Value}  {Q : AH → Prop} (hd : d2 + 1 ≤ d) (ha : At h b (.inr (3, vs))) (call : RQ G mX4_giveSeatsByQuota d2 0 [some (.ref b), none, none, none, none] [] h (Rv Q)) (k : ∀ h1, Q h1 → RQ G mX4_count d 78 [x0, x1] S h1 P) (hst : (S.map fun v => v.category).sum ≤ 8 := by exact Nat.le_of_ble_eq_true rfl)  : RQ G mX4_count d 75 [x0, x1] (.ref b :: S) h P := q_callV (M := mX4_count) (pc := 75) (M2 := mX4_giveSeatsByQuota) (As := []) (n := 0) dX4_count_75 rfl ⟨by decide, by decide, by decide, rfl⟩ rfl w492 w494 w6 w47 w495 (show CL[3]? = some (RX4, TX4, 10) from rfl) hd (by decide) (Nat.le_of_ble_eq_true rfl) rfl ha hst call (callk_v k)
theorem tX4_count_78 (hP : P (.inl none) h) : RQ G mX4_count d 78 [x0, x1] ([]) h P := q_return (M := mX4_count) (pc := 78) dX4_count_78 rfl hP
end T
theorem dX4_emptySeatsLeft_0 : decode cX4_emptySeatsLeft 0 = .ok (.aload_n 0, 1) := by decide +kernel
theorem dX4_emptySeatsLeft_1 : decode cX4_emptySeatsLeft 1 = .ok (.getfield 37, 3) := by decide +kernel
theorem dX4_emptySeatsLeft_4 : decode cX4_emptySeatsLeft 4 = .ok (.istore_n 1, 1) := by decide +kernel
theorem dX4_emptySeatsLeft_5 : decode cX4_emptySeatsLeft 5 = .ok (.iconst 0, 1) := by decide +kernel
theorem dX4_emptySeatsLeft_6 : decode cX4_emptySeatsLeft 6 = .ok (.istore_n 2, 1) := by decide +kernel
theorem dX4_emptySeatsLeft_7 : decode cX4_emptySeatsLeft 7 = .ok (.iload_n 2, 1) := by decide +kernel
theorem dX4_emptySeatsLeft_8 : decode cX4_emptySeatsLeft 8 = .ok (.bipush 6, 2) := by decide +kernel
theorem dX4_emptySeatsLeft_10 : decode cX4_emptySeatsLeft 10 = .ok (.if_icmp .ge 18, 3) := by decide +kernel
theorem dX4_emptySeatsLeft_13 : decode cX4_emptySeatsLeft 13 = .ok (.iload_n 1, 1) := by decide +kernel
theorem dX4_emptySeatsLeft_14 : decode cX4_emptySeatsLeft 14 = .ok (.aload_n 0, 1) := by decide +kernel
theorem dX4_emptySeatsLeft_15 : decode cX4_emptySeatsLeft 15 = .ok (.getfield 18, 3) := by decide +kernel
theorem dX4_emptySeatsLeft_18 : decode cX4_emptySeatsLeft 18 = .ok (.iload_n 2, 1) := by decide +kernel
theorem dX4_emptySeatsLeft_19 : decode cX4_emptySeatsLeft 19 = .ok (.iaload, 1) := by decide +kernel
theorem dX4_emptySeatsLeft_20 : decode cX4_emptySeatsLeft 20 = .ok (.isub, 1) := by decide +kernel
theorem dX4_emptySeatsLeft_21 : decode cX4_emptySeatsLeft 21 = .ok (.istore_n 1, 1) := by decide +kernel
theorem dX4_emptySeatsLeft_22 : decode cX4_emptySeatsLeft 22 = .ok (.iinc 2 1, 3) := by decide +kernel
theorem dX4_emptySeatsLeft_25 : decode cX4_emptySeatsLeft 25 = .ok (.goto (-18), 3) := by decide +kernel
theorem dX4_emptySeatsLeft_28 : decode cX4_emptySeatsLeft 28 = .ok (.iload_n 1, 1) := by decide +kernel
theorem dX4_emptySeatsLeft_29 : decode cX4_emptySeatsLeft 29 = .ok (.ireturn, 1) := by decide +kernel
section T
variable {G : GT} {d : Nat} {S : List Value} {h : AH} {P : OC → AH → Prop} {x0 x1 x2 x3 x4 x5 x6 x7 x8 x9 x10 x11 x12 x13 x14 x15 : Option Value}
theorem tX4_emptySeatsLeft_0 {k : Nat} (r : RQ G mX4_emptySeatsLeft d 1 [some (.ref k), x1, x2] (.ref k :: S) (h) P) : RQ G mX4_emptySeatsLeft d 0 [some (.ref k), x1, x2] (S) h P := q_aload_n (M := mX4_emptySeatsLeft) (pc := 0) (r0 := some k) dX4_emptySeatsLeft_0 rfl rfl r
theorem tX4_emptySeatsLeft_1 {i : Nat} {vs : List Value} {v : Value} (ha : At h i (.inr (3, vs))) (hv : vs[4]? = some v) (r : RQ G mX4_emptySeatsLeft d 4 [x0, x1, x2] (v :: S) (h) P) : RQ G mX4_emptySeatsLeft d 1 [x0, x1, x2] (.ref i :: S) h P := q_get (M := mX4_emptySeatsLeft) (pc := 1) (kf := 4) dX4_emptySeatsLeft_1 (show CL[3]? = some (RX4, TX4, 10) from rfl) inA4 (by decide) rfl w161 ha hv r
theorem tX4_emptySeatsLeft_4 {v : Int32} (ho : ok1 x0 = true := by rfl) (r : RQ G mX4_emptySeatsLeft d 5 [x0, some (.int v), x2] (S) (h) P) : RQ G mX4_emptySeatsLeft d 4 [x0, x1, x2] (.int v :: S) h P := q_istore_n (M := mX4_emptySeatsLeft) (pc := 4) dX4_emptySeatsLeft_4 rfl (Nat.le_of_ble_eq_true rfl) ho r
theorem tX4_emptySeatsLeft_5 (r : RQ G mX4_emptySeatsLeft d 6 [x0, x1, x2] (.int (nI 0) :: S) (h) P) : RQ G mX4_emptySeatsLeft d 5 [x0, x1, x2] (S) h P := q_iconst (M := mX4_emptySeatsLeft) (pc := 5) dX4_emptySeatsLeft_5 (by decide) r
theorem tX4_emptySeatsLeft_6 {v : Int32} (ho : ok1 x1 = true := by rfl) (r : RQ G mX4_emptySeatsLeft d 7 [x0, x1, some (.int v)] (S) (h) P) : RQ G mX4_emptySeatsLeft d 6 [x0, x1, x2] (.int v :: S) h P := q_istore_n (M := mX4_emptySeatsLeft) (pc := 6) dX4_emptySeatsLeft_6 rfl (Nat.le_of_ble_eq_true rfl) ho r
theorem tX4_emptySeatsLeft_7 {v : Int32} (r : RQ G mX4_emptySeatsLeft d 8 [x0, x1, some (.int v)] (.int v :: S) (h) P) : RQ G mX4_emptySeatsLeft d 7 [x0, x1, some (.int v)] (S) h P := q_iload_n (M := mX4_emptySeatsLeft) (pc := 7) dX4_emptySeatsLeft_7 rfl rfl r
theorem tX4_emptySeatsLeft_8 (r : RQ G mX4_emptySeatsLeft d 10 [x0, x1, x2] (.int (nI 6) :: S) (h) P) : RQ G mX4_emptySeatsLeft d 8 [x0, x1, x2] (S) h P := q_bipush (M := mX4_emptySeatsLeft) (pc := 8) dX4_emptySeatsLeft_8 (by decide) r
theorem tX4_emptySeatsLeft_10 {x y : Int32} (kt : y ≤ x → RQ G mX4_emptySeatsLeft d 28 [x0, x1, x2] S h P) (kf : ¬ y ≤ x → RQ G mX4_emptySeatsLeft d 13 [x0, x1, x2] S h P) : RQ G mX4_emptySeatsLeft d 10 [x0, x1, x2] (.int y :: .int x :: S) h P := q_icmp_ge (M := mX4_emptySeatsLeft) (pc := 10) dX4_emptySeatsLeft_10 (by decide) kt kf
theorem tX4_emptySeatsLeft_13 {v : Int32} (r : RQ G mX4_emptySeatsLeft d 14 [x0, some (.int v), x2] (.int v :: S) (h) P) : RQ G mX4_emptySeatsLeft d 13 [x0, some (.int v), x2] (S) h P := q_iload_n (M := mX4_emptySeatsLeft) (pc := 13) dX4_emptySeatsLeft_13 rfl rfl r
theorem tX4_emptySeatsLeft_14 {k : Nat} (r : RQ G mX4_emptySeatsLeft d 15 [some (.ref k), x1, x2] (.ref k :: S) (h) P) : RQ G mX4_emptySeatsLeft d 14 [some (.ref k), x1, x2] (S) h P := q_aload_n (M := mX4_emptySeatsLeft) (pc := 14) (r0 := some k) dX4_emptySeatsLeft_14 rfl rfl r
theorem tX4_emptySeatsLeft_15 {i : Nat} {vs : List Value} {v : Value} (ha : At h i (.inr (3, vs))) (hv : vs[2]? = some v) (r : RQ G mX4_emptySeatsLeft d 18 [x0, x1, x2] (v :: S) (h) P) : RQ G mX4_emptySeatsLeft d 15 [x0, x1, x2] (.ref i :: S) h P := q_get (M := mX4_emptySeatsLeft) (pc := 15) (kf := 2) dX4_emptySeatsLeft_15 (show CL[3]? = some (RX4, TX4, 10) from rfl) inA4 (by decide) rfl w157 ha hv r
theorem tX4_emptySeatsLeft_18 {v : Int32} (r : RQ G mX4_emptySeatsLeft d 19 [x0, x1, some (.int v)] (.int v :: S) (h) P) : RQ G mX4_emptySeatsLeft d 18 [x0, x1, some (.int v)] (S) h P := q_iload_n (M := mX4_emptySeatsLeft) (pc := 18) dX4_emptySeatsLeft_18 rfl rfl r
theorem tX4_emptySeatsLeft_19 {a n j : Nat} {x : Int32} {f : Nat → Int32} (ha : At h a (.inl (0, n, .inl f))) (hx : x = nI j) (hj : j < n) (hn : n < 2147483648) (r : RQ G mX4_emptySeatsLeft d 20 [x0, x1, x2] (.int (f j) :: S) (h) P) : RQ G mX4_emptySeatsLeft d 19 [x0, x1, x2] (.int x :: .ref a :: S) h P := q_iald (M := mX4_emptySeatsLeft) (pc := 19) dX4_emptySeatsLeft_19 ha hx hj hn r
theorem tX4_emptySeatsLeft_20 {x y : Int32} (r : RQ G mX4_emptySeatsLeft d 21 [x0, x1, x2] (.int (x - y) :: S) (h) P) : RQ G mX4_emptySeatsLeft d 20 [x0, x1, x2] (.int y :: .int x :: S) h P := q_isub (M := mX4_emptySeatsLeft) (pc := 20) dX4_emptySeatsLeft_20 r
theorem tX4_emptySeatsLeft_21 {v : Int32} (ho : ok1 x0 = true := by rfl) (r : RQ G mX4_emptySeatsLeft d 22 [x0, some (.int v), x2] (S) (h) P) : RQ G mX4_emptySeatsLeft d 21 [x0, x1, x2] (.int v :: S) h P := q_istore_n (M := mX4_emptySeatsLeft) (pc := 21) dX4_emptySeatsLeft_21 rfl (Nat.le_of_ble_eq_true rfl) ho r
theorem tX4_emptySeatsLeft_22 {v : Int32} (ho : ok1 x1 = true := by rfl) (r : RQ G mX4_emptySeatsLeft d 25 [x0, x1, some (.int (v + (nI 1)))] (S) (h) P) : RQ G mX4_emptySeatsLeft d 22 [x0, x1, some (.int v)] (S) h P := q_iinc (M := mX4_emptySeatsLeft) (pc := 22) dX4_emptySeatsLeft_22 rfl (congrArg (v + ·) (show Int32.ofInt (1) = (nI 1) by decide)) (Nat.le_of_ble_eq_true rfl) ho r
theorem tX4_emptySeatsLeft_25 (r : RQ G mX4_emptySeatsLeft d 7 [x0, x1, x2] S h P) : RQ G mX4_emptySeatsLeft d 25 [x0, x1, x2] (S) h P := q_goto (M := mX4_emptySeatsLeft) (pc := 25) dX4_emptySeatsLeft_25 (by decide) r
theorem tX4_emptySeatsLeft_28 {v : Int32} (r : RQ G mX4_emptySeatsLeft d 29 [x0, some (.int v), x2] (.int v :: S) (h) P) : RQ G mX4_emptySeatsLeft d 28 [x0, some (.int v), x2] (S) h P := q_iload_n (M := mX4_emptySeatsLeft) (pc := 28) dX4_emptySeatsLeft_28 rfl rfl r
theorem tX4_emptySeatsLeft_29 {x : Int32} (hP : P (.inl (some (.int x))) h) : RQ G mX4_emptySeatsLeft d 29 [x0, x1, x2] ([.int x]) h P := q_ireturn (M := mX4_emptySeatsLeft) (pc := 29) (ty := .int) dX4_emptySeatsLeft_29 rfl rfl hP
end T
theorem dX4_beansMissing_0 : decode cX4_beansMissing 0 = .ok (.aload_n 0, 1) := by decide +kernel
theorem dX4_beansMissing_1 : decode cX4_beansMissing 1 = .ok (.getfield 33, 3) := by decide +kernel
theorem dX4_beansMissing_4 : decode cX4_beansMissing 4 = .ok (.iconst (-1), 1) := by decide +kernel
theorem dX4_beansMissing_5 : decode cX4_beansMissing 5 = .ok (.if_icmp .eq 11, 3) := by decide +kernel
theorem dX4_beansMissing_8 : decode cX4_beansMissing 8 = .ok (.iload_n 1, 1) := by decide +kernel
theorem dX4_beansMissing_9 : decode cX4_beansMissing 9 = .ok (.aload_n 0, 1) := by decide +kernel
theorem dX4_beansMissing_10 : decode cX4_beansMissing 10 = .ok (.getfield 33, 3) := by decide +kernel
theorem dX4_beansMissing_13 : decode cX4_beansMissing 13 = .ok (.if_icmp .ne 17, 3) := by decide +kernel
theorem dX4_beansMissing_16 : decode cX4_beansMissing 16 = .ok (.aload_n 0, 1) := by decide +kernel
theorem dX4_beansMissing_17 : decode cX4_beansMissing 17 = .ok (.getfield 33, 3) := by decide +kernel
theorem dX4_beansMissing_20 : decode cX4_beansMissing 20 = .ok (.iconst (-1), 1) := by decide +kernel
theorem dX4_beansMissing_21 : decode cX4_beansMissing 21 = .ok (.if_icmp .ne 7, 3) := by decide +kernel
theorem dX4_beansMissing_24 : decode cX4_beansMissing 24 = .ok (.iconst (-1), 1) := by decide +kernel
theorem dX4_beansMissing_25 : decode cX4_beansMissing 25 = .ok (.goto 4, 3) := by decide +kernel
theorem dX4_beansMissing_28 : decode cX4_beansMissing 28 = .ok (.iconst 0, 1) := by decide +kernel
theorem dX4_beansMissing_29 : decode cX4_beansMissing 29 = .ok (.ireturn, 1) := by decide +kernel
theorem dX4_beansMissing_30 : decode cX4_beansMissing 30 = .ok (.aload_n 0, 1) := by decide +kernel
theorem dX4_beansMissing_31 : decode cX4_beansMissing 31 = .ok (.getfield 15, 3) := by decide +kernel
theorem dX4_beansMissing_34 : decode cX4_beansMissing 34 = .ok (.aload_n 0, 1) := by decide +kernel
theorem dX4_beansMissing_35 : decode cX4_beansMissing 35 = .ok (.getfield 33, 3) := by decide +kernel
theorem dX4_beansMissing_38 : decode cX4_beansMissing 38 = .ok (.iaload, 1) := by decide +kernel
theorem dX4_beansMissing_39 : decode cX4_beansMissing 39 = .ok (.aload_n 0, 1) := by decide +kernel
theorem dX4_beansMissing_40 : decode cX4_beansMissing 40 = .ok (.getfield 15, 3) := by decide +kernel
theorem dX4_beansMissing_43 : decode cX4_beansMissing 43 = .ok (.iload_n 1, 1) := by decide +kernel
theorem dX4_beansMissing_44 : decode cX4_beansMissing 44 = .ok (.iaload, 1) := by decide +kernel
theorem dX4_beansMissing_45 : decode cX4_beansMissing 45 = .ok (.isub, 1) := by decide +kernel
theorem dX4_beansMissing_46 : decode cX4_beansMissing 46 = .ok (.aload_n 0, 1) := by decide +kernel
theorem dX4_beansMissing_47 : decode cX4_beansMissing 47 = .ok (.getfield 33, 3) := by decide +kernel
theorem dX4_beansMissing_50 : decode cX4_beansMissing 50 = .ok (.iload_n 1, 1) := by decide +kernel
theorem dX4_beansMissing_51 : decode cX4_beansMissing 51 = .ok (.if_icmp .ge 7, 3) := by decide +kernel
theorem dX4_beansMissing_54 : decode cX4_beansMissing 54 = .ok (.iconst 1, 1) := by decide +kernel
theorem dX4_beansMissing_55 : decode cX4_beansMissing 55 = .ok (.goto 4, 3) := by decide +kernel
theorem dX4_beansMissing_58 : decode cX4_beansMissing 58 = .ok (.iconst 0, 1) := by decide +kernel
theorem dX4_beansMissing_59 : decode cX4_beansMissing 59 = .ok (.iadd, 1) := by decide +kernel
theorem dX4_beansMissing_60 : decode cX4_beansMissing 60 = .ok (.iconst 1, 1) := by decide +kernel
theorem dX4_beansMissing_61 : decode cX4_beansMissing 61 = .ok (.iadd, 1) := by decide +kernel
theorem dX4_beansMissing_62 : decode cX4_beansMissing 62 = .ok (.iconst 2, 1) := by decide +kernel
theorem dX4_beansMissing_63 : decode cX4_beansMissing 63 = .ok (.idiv, 1) := by decide +kernel
theorem dX4_beansMissing_64 : decode cX4_beansMissing 64 = .ok (.istore_n 2, 1) := by decide +kernel
theorem dX4_beansMissing_65 : decode cX4_beansMissing 65 = .ok (.iconst 0, 1) := by decide +kernel
theorem dX4_beansMissing_66 : decode cX4_beansMissing 66 = .ok (.istore_n 3, 1) := by decide +kernel
theorem dX4_beansMissing_67 : decode cX4_beansMissing 67 = .ok (.iload_n 3, 1) := by decide +kernel
theorem dX4_beansMissing_68 : decode cX4_beansMissing 68 = .ok (.bipush 6, 2) := by decide +kernel
theorem dX4_beansMissing_70 : decode cX4_beansMissing 70 = .ok (.if_icmp .ge 55, 3) := by decide +kernel
theorem dX4_beansMissing_73 : decode cX4_beansMissing 73 = .ok (.iload_n 3, 1) := by decide +kernel
theorem dX4_beansMissing_74 : decode cX4_beansMissing 74 = .ok (.aload_n 0, 1) := by decide +kernel
theorem dX4_beansMissing_75 : decode cX4_beansMissing 75 = .ok (.getfield 33, 3) := by decide +kernel
theorem dX4_beansMissing_78 : decode cX4_beansMissing 78 = .ok (.if_icmp .eq 41, 3) := by decide +kernel
theorem dX4_beansMissing_81 : decode cX4_beansMissing 81 = .ok (.iload_n 3, 1) := by decide +kernel
theorem dX4_beansMissing_82 : decode cX4_beansMissing 82 = .ok (.iload_n 1, 1) := by decide +kernel
theorem dX4_beansMissing_83 : decode cX4_beansMissing 83 = .ok (.if_icmp .eq 36, 3) := by decide +kernel
theorem dX4_beansMissing_86 : decode cX4_beansMissing 86 = .ok (.aload_n 0, 1) := by decide +kernel
theorem dX4_beansMissing_87 : decode cX4_beansMissing 87 = .ok (.getfield 15, 3) := by decide +kernel
theorem dX4_beansMissing_90 : decode cX4_beansMissing 90 = .ok (.iload_n 3, 1) := by decide +kernel
theorem dX4_beansMissing_91 : decode cX4_beansMissing 91 = .ok (.iaload, 1) := by decide +kernel
theorem dX4_beansMissing_92 : decode cX4_beansMissing 92 = .ok (.aload_n 0, 1) := by decide +kernel
theorem dX4_beansMissing_93 : decode cX4_beansMissing 93 = .ok (.getfield 15, 3) := by decide +kernel
theorem dX4_beansMissing_96 : decode cX4_beansMissing 96 = .ok (.iload_n 1, 1) := by decide +kernel
theorem dX4_beansMissing_97 : decode cX4_beansMissing 97 = .ok (.iaload, 1) := by decide +kernel
theorem dX4_beansMissing_98 : decode cX4_beansMissing 98 = .ok (.isub, 1) := by decide +kernel
theorem dX4_beansMissing_99 : decode cX4_beansMissing 99 = .ok (.iload_n 3, 1) := by decide +kernel
theorem dX4_beansMissing_100 : decode cX4_beansMissing 100 = .ok (.iload_n 1, 1) := by decide +kernel
theorem dX4_beansMissing_101 : decode cX4_beansMissing 101 = .ok (.if_icmp .ge 7, 3) := by decide +kernel
theorem dX4_beansMissing_104 : decode cX4_beansMissing 104 = .ok (.iconst 1, 1) := by decide +kernel
theorem dX4_beansMissing_105 : decode cX4_beansMissing 105 = .ok (.goto 4, 3) := by decide +kernel
theorem dX4_beansMissing_108 : decode cX4_beansMissing 108 = .ok (.iconst 0, 1) := by decide +kernel
theorem dX4_beansMissing_109 : decode cX4_beansMissing 109 = .ok (.iadd, 1) := by decide +kernel
theorem dX4_beansMissing_110 : decode cX4_beansMissing 110 = .ok (.istore 4, 2) := by decide +kernel
theorem dX4_beansMissing_112 : decode cX4_beansMissing 112 = .ok (.iload_n 2, 1) := by decide +kernel
theorem dX4_beansMissing_113 : decode cX4_beansMissing 113 = .ok (.iload 4, 2) := by decide +kernel
theorem dX4_beansMissing_115 : decode cX4_beansMissing 115 = .ok (.invokestatic 44, 3) := by decide +kernel
theorem dX4_beansMissing_118 : decode cX4_beansMissing 118 = .ok (.istore_n 2, 1) := by decide +kernel
theorem dX4_beansMissing_119 : decode cX4_beansMissing 119 = .ok (.iinc 3 1, 3) := by decide +kernel
theorem dX4_beansMissing_122 : decode cX4_beansMissing 122 = .ok (.goto (-55), 3) := by decide +kernel
theorem dX4_beansMissing_125 : decode cX4_beansMissing 125 = .ok (.iload_n 2, 1) := by decide +kernel
theorem dX4_beansMissing_126 : decode cX4_beansMissing 126 = .ok (.aload_n 0, 1) := by decide +kernel
theorem dX4_beansMissing_127 : decode cX4_beansMissing 127 = .ok (.getfield 15, 3) := by decide +kernel
theorem dX4_beansMissing_130 : decode cX4_beansMissing 130 = .ok (.aload_n 0, 1) := by decide +kernel
theorem dX4_beansMissing_131 : decode cX4_beansMissing 131 = .ok (.getfield 33, 3) := by decide +kernel
theorem dX4_beansMissing_134 : decode cX4_beansMissing 134 = .ok (.iaload, 1) := by decide +kernel
theorem dX4_beansMissing_135 : decode cX4_beansMissing 135 = .ok (.if_icmp .gt 7, 3) := by decide +kernel
theorem dX4_beansMissing_138 : decode cX4_beansMissing 138 = .ok (.iload_n 2, 1) := by decide +kernel
theorem dX4_beansMissing_139 : decode cX4_beansMissing 139 = .ok (.goto 4, 3) := by decide +kernel
theorem dX4_beansMissing_142 : decode cX4_beansMissing 142 = .ok (.iconst (-1), 1) := by decide +kernel
theorem dX4_beansMissing_143 : decode cX4_beansMissing 143 = .ok (.ireturn, 1) := by decide +kernel
section T
variable {G : GT} {d : Nat} {S : List Value} {h : AH} {P : OC → AH → Prop} {x0 x1 x2 x3 x4 x5 x6 x7 x8 x9 x10 x11 x12 x13 x14 x15 : Option Value}
theorem tX4_beansMissing_0 {k : Nat} (r : RQ G mX4_beansMissing d 1 [some (.ref k), x1, x2, x3, x4] (.ref k :: S) (h) P) : RQ G mX4_beansMissing d 0 [some (.ref k), x1, x2, x3, x4] (S) h P := q_aload_n (M := mX4_beansMissing) (pc := 0) (r0 := some k) dX4_beansMissing_0 rfl rfl r
theorem tX4_beansMissing_1 {i : Nat} {vs : List Value} {v : Value} (ha : At h i (.inr (3, vs))) (hv : vs[7]? = some v) (r : RQ G mX4_beansMissing d 4 [x0, x1, x2, x3, x4] (v :: S) (h) P) : RQ G mX4_beansMissing d 1 [x0, x1, x2, x3, x4] (.ref i :: S) h P := q_get (M := mX4_beansMissing) (pc := 1) (kf := 7) dX4_beansMissing_1 (show CL[3]? = some (RX4, TX4, 10) from rfl) inA4 (by decide) rfl w170 ha hv r
theorem tX4_beansMissing_4 (r : RQ G mX4_beansMissing d 5 [x0, x1, x2, x3, x4] (.int (-1) :: S) (h) P) : RQ G mX4_beansMissing d 4 [x0, x1, x2, x3, x4] (S) h P := q_iconst (M := mX4_beansMissing) (pc := 4) dX4_beansMissing_4 (by decide) r
theorem tX4_beansMissing_5 {x y : Int32} (kt : x = y → RQ G mX4_beansMissing d 16 [x0, x1, x2, x3, x4] S h P) (kf : ¬ x = y → RQ G mX4_beansMissing d 8 [x0, x1, x2, x3, x4] S h P) : RQ G mX4_beansMissing d 5 [x0, x1, x2, x3, x4] (.int y :: .int x :: S) h P := q_icmp_eq (M := mX4_beansMissing) (pc := 5) dX4_beansMissing_5 (by decide) kt kf
theorem tX4_beansMissing_8 {v : Int32} (r : RQ G mX4_beansMissing d 9 [x0, some (.int v), x2, x3, x4] (.int v :: S) (h) P) : RQ G mX4_beansMissing d 8 [x0, some (.int v), x2, x3, x4] (S) h P := q_iload_n (M := mX4_beansMissing) (pc := 8) dX4_beansMissing_8 rfl rfl r
theorem tX4_beansMissing_9 {k : Nat} (r : RQ G mX4_beansMissing d 10 [some (.ref k), x1, x2, x3, x4] (.ref k :: S) (h) P) : RQ G mX4_beansMissing d 9 [some (.ref k), x1, x2, x3, x4] (S) h P := q_aload_n (M := mX4_beansMissing) (pc := 9) (r0 := some k) dX4_beansMissing_9 rfl rfl r
theorem tX4_beansMissing_10 {i : Nat} {vs : List Value} {v : Value} (ha : At h i (.inr (3, vs))) (hv : vs[7]? = some v) (r : RQ G mX4_beansMissing d 13 [x0, x1, x2, x3, x4] (v :: S) (h) P) : RQ G mX4_beansMissing d 10 [x0, x1, x2, x3, x4] (.ref i :: S) h P := q_get (M := mX4_beansMissing) (pc := 10) (kf := 7) dX4_beansMissing_10 (show CL[3]? = some (RX4, TX4, 10) from rfl) inA4 (by decide) rfl w170 ha hv r
theorem tX4_beansMissing_13 {x y : Int32} (kt : ¬ x = y → RQ G mX4_beansMissing d 30 [x0, x1, x2, x3, x4] S h P) (kf : x = y → RQ G mX4_beansMissing d 16 [x0, x1, x2, x3, x4] S h P) : RQ G mX4_beansMissing d 13 [x0, x1, x2, x3, x4] (.int y :: .int x :: S) h P := q_icmp_ne (M := mX4_beansMissing) (pc := 13) dX4_beansMissing_13 (by decide) kt kf
theorem tX4_beansMissing_16 {k : Nat} (r : RQ G mX4_beansMissing d 17 [some (.ref k), x1, x2, x3, x4] (.ref k :: S) (h) P) : RQ G mX4_beansMissing d 16 [some (.ref k), x1, x2, x3, x4] (S) h P := q_aload_n (M := mX4_beansMissing) (pc := 16) (r0 := some k) dX4_beansMissing_16 rfl rfl r
theorem tX4_beansMissing_17 {i : Nat} {vs : List Value} {v : Value} (ha : At h i (.inr (3, vs))) (hv : vs[7]? = some v) (r : RQ G mX4_beansMissing d 20 [x0, x1, x2, x3, x4] (v :: S) (h) P) : RQ G mX4_beansMissing d 17 [x0, x1, x2, x3, x4] (.ref i :: S) h P := q_get (M := mX4_beansMissing) (pc := 17) (kf := 7) dX4_beansMissing_17 (show CL[3]? = some (RX4, TX4, 10) from rfl) inA4 (by decide) rfl w170 ha hv r
theorem tX4_beansMissing_20 (r : RQ G mX4_beansMissing d 21 [x0, x1, x2, x3, x4] (.int (-1) :: S) (h) P) : RQ G mX4_beansMissing d 20 [x0, x1, x2, x3, x4] (S) h P := q_iconst (M := mX4_beansMissing) (pc := 20) dX4_beansMissing_20 (by decide) r
theorem tX4_beansMissing_21 {x y : Int32} (kt : ¬ x = y → RQ G mX4_beansMissing d 28 [x0, x1, x2, x3, x4] S h P) (kf : x = y → RQ G mX4_beansMissing d 24 [x0, x1, x2, x3, x4] S h P) : RQ G mX4_beansMissing d 21 [x0, x1, x2, x3, x4] (.int y :: .int x :: S) h P := q_icmp_ne (M := mX4_beansMissing) (pc := 21) dX4_beansMissing_21 (by decide) kt kf
theorem tX4_beansMissing_24 (r : RQ G mX4_beansMissing d 25 [x0, x1, x2, x3, x4] (.int (-1) :: S) (h) P) : RQ G mX4_beansMissing d 24 [x0, x1, x2, x3, x4] (S) h P := q_iconst (M := mX4_beansMissing) (pc := 24) dX4_beansMissing_24 (by decide) r
theorem tX4_beansMissing_25 (r : RQ G mX4_beansMissing d 29 [x0, x1, x2, x3, x4] S h P) : RQ G mX4_beansMissing d 25 [x0, x1, x2, x3, x4] (S) h P := q_goto (M := mX4_beansMissing) (pc := 25) dX4_beansMissing_25 (by decide) r
theorem tX4_beansMissing_28 (r : RQ G mX4_beansMissing d 29 [x0, x1, x2, x3, x4] (.int (nI 0) :: S) (h) P) : RQ G mX4_beansMissing d 28 [x0, x1, x2, x3, x4] (S) h P := q_iconst (M := mX4_beansMissing) (pc := 28) dX4_beansMissing_28 (by decide) r
theorem tX4_beansMissing_29 {x : Int32} (hP : P (.inl (some (.int x))) h) : RQ G mX4_beansMissing d 29 [x0, x1, x2, x3, x4] ([.int x]) h P := q_ireturn (M := mX4_beansMissing) (pc := 29) (ty := .int) dX4_beansMissing_29 rfl rfl hP
theorem tX4_beansMissing_30 {k : Nat} (r : RQ G mX4_beansMissing d 31 [some (.ref k), x1, x2, x3, x4] (.ref k :: S) (h) P) : RQ G mX4_beansMissing d 30 [some (.ref k), x1, x2, x3, x4] (S) h P := q_aload_n (M := mX4_beansMissing) (pc := 30) (r0 := some k) dX4_beansMissing_30 rfl rfl r
theorem tX4_beansMissing_31 {i : Nat} {vs : List Value} {v : Value} (ha : At h i (.inr (3, vs))) (hv : vs[1]? = some v) (r : RQ G mX4_beansMissing d 34 [x0, x1, x2, x3, x4] (v :: S) (h) P) : RQ G mX4_beansMissing d 31 [x0, x1, x2, x3, x4] (.ref i :: S) h P := q_get (M := mX4_beansMissing) (pc := 31) (kf := 1) dX4_beansMissing_31 (show CL[3]? = some (RX4, TX4, 10) from rfl) inA4 (by decide) rfl w155 ha hv r
theorem tX4_beansMissing_34 {k : Nat} (r : RQ G mX4_beansMissing d 35 [some (.ref k), x1, x2, x3, x4] (.ref k :: S) (h) P) : RQ G mX4_beansMissing d 34 [some (.ref k), x1, x2, x3, x4] (S) h P := q_aload_n (M := mX4_beansMissing) (pc := 34) (r0 := some k) dX4_beansMissing_34 rfl rfl r
theorem tX4_beansMissing_35 {i : Nat} {vs : List Value} {v : Value} (ha : At h i (.inr (3, vs))) (hv : vs[7]? = some v) (r : RQ G mX4_beansMissing d 38 [x0, x1, x2, x3, x4] (v :: S) (h) P) : RQ G mX4_beansMissing d 35 [x0, x1, x2, x3, x4] (.ref i :: S) h P := q_get (M := mX4_beansMissing) (pc := 35) (kf := 7) dX4_beansMissing_35 (show CL[3]? = some (RX4, TX4, 10) from rfl) inA4 (by decide) rfl w170 ha hv r
theorem tX4_beansMissing_38 {a n j : Nat} {x : Int32} {f : Nat → Int32} (ha : At h a (.inl (0, n, .inl f))) (hx : x = nI j) (hj : j < n) (hn : n < 2147483648) (r : RQ G mX4_beansMissing d 39 [x0, x1, x2, x3, x4] (.int (f j) :: S) (h) P) : RQ G mX4_beansMissing d 38 [x0, x1, x2, x3, x4] (.int x :: .ref a :: S) h P := q_iald (M := mX4_beansMissing) (pc := 38) dX4_beansMissing_38 ha hx hj hn r
theorem tX4_beansMissing_39 {k : Nat} (r : RQ G mX4_beansMissing d 40 [some (.ref k), x1, x2, x3, x4] (.ref k :: S) (h) P) : RQ G mX4_beansMissing d 39 [some (.ref k), x1, x2, x3, x4] (S) h P := q_aload_n (M := mX4_beansMissing) (pc := 39) (r0 := some k) dX4_beansMissing_39 rfl rfl r
theorem tX4_beansMissing_40 {i : Nat} {vs : List Value} {v : Value} (ha : At h i (.inr (3, vs))) (hv : vs[1]? = some v) (r : RQ G mX4_beansMissing d 43 [x0, x1, x2, x3, x4] (v :: S) (h) P) : RQ G mX4_beansMissing d 40 [x0, x1, x2, x3, x4] (.ref i :: S) h P := q_get (M := mX4_beansMissing) (pc := 40) (kf := 1) dX4_beansMissing_40 (show CL[3]? = some (RX4, TX4, 10) from rfl) inA4 (by decide) rfl w155 ha hv r
theorem tX4_beansMissing_43 {v : Int32} (r : RQ G mX4_beansMissing d 44 [x0, some (.int v), x2, x3, x4] (.int v :: S) (h) P) : RQ G mX4_beansMissing d 43 [x0, some (.int v), x2, x3, x4] (S) h P := q_iload_n (M := mX4_beansMissing) (pc := 43) dX4_beansMissing_43 rfl rfl r
theorem tX4_beansMissing_44 {a n j : Nat} {x : Int32} {f : Nat → Int32} (ha : At h a (.inl (0, n, .inl f))) (hx : x = nI j) (hj : j < n) (hn : n < 2147483648) (r : RQ G mX4_beansMissing d 45 [x0, x1, x2, x3, x4] (.int (f j) :: S) (h) P) : RQ G mX4_beansMissing d 44 [x0, x1, x2, x3, x4] (.int x :: .ref a :: S) h P := q_iald (M := mX4_beansMissing) (pc := 44) dX4_beansMissing_44 ha hx hj hn r
theorem tX4_beansMissing_45 {x y : Int32} (r : RQ G mX4_beansMissing d 46 [x0, x1, x2, x3, x4] (.int (x - y) :: S) (h) P) : RQ G mX4_beansMissing d 45 [x0, x1, x2, x3, x4] (.int y :: .int x :: S) h P := q_isub (M := mX4_beansMissing) (pc := 45) dX4_beansMissing_45 r
theorem tX4_beansMissing_46 {k : Nat} (r : RQ G mX4_beansMissing d 47 [some (.ref k), x1, x2, x3, x4] (.ref k :: S) (h) P) : RQ G mX4_beansMissing d 46 [some (.ref k), x1, x2, x3, x4] (S) h P := q_aload_n (M := mX4_beansMissing) (pc := 46) (r0 := some k) dX4_beansMissing_46 rfl rfl r
theorem tX4_beansMissing_47 {i : Nat} {vs : List Value} {v : Value} (ha : At h i (.inr (3, vs))) (hv : vs[7]? = some v) (r : RQ G mX4_beansMissing d 50 [x0, x1, x2, x3, x4] (v :: S) (h) P) : RQ G mX4_beansMissing d 47 [x0, x1, x2, x3, x4] (.ref i :: S) h P := q_get (M := mX4_beansMissing) (pc := 47) (kf := 7) dX4_beansMissing_47 (show CL[3]? = some (RX4, TX4, 10) from rfl) inA4 (by decide) rfl w170 ha hv r
theorem tX4_beansMissing_50 {v : Int32} (r : RQ G mX4_beansMissing d 51 [x0, some (.int v), x2, x3, x4] (.int v :: S) (h) P) : RQ G mX4_beansMissing d 50 [x0, some (.int v), x2, x3, x4] (S) h P := q_iload_n (M := mX4_beansMissing) (pc := 50) dX4_beansMissing_50 rfl rfl r
theorem tX4_beansMissing_51 {x y : Int32} (kt : y ≤ x → RQ G mX4_beansMissing d 58 [x0, x1, x2, x3, x4] S h P) (kf : ¬ y ≤ x → RQ G mX4_beansMissing d 54 [x0, x1, x2, x3, x4] S h P) : RQ G mX4_beansMissing d 51 [x0, x1, x2, x3, x4] (.int y :: .int x :: S) h P := q_icmp_ge (M := mX4_beansMissing) (pc := 51) dX4_beansMissing_51 (by decide) kt kf
theorem tX4_beansMissing_54 (r : RQ G mX4_beansMissing d 55 [x0, x1, x2, x3, x4] (.int (nI 1) :: S) (h) P) : RQ G mX4_beansMissing d 54 [x0, x1, x2, x3, x4] (S) h P := q_iconst (M := mX4_beansMissing) (pc := 54) dX4_beansMissing_54 (by decide) r
theorem tX4_beansMissing_55 (r : RQ G mX4_beansMissing d 59 [x0, x1, x2, x3, x4] S h P) : RQ G mX4_beansMissing d 55 [x0, x1, x2, x3, x4] (S) h P := q_goto (M := mX4_beansMissing) (pc := 55) dX4_beansMissing_55 (by decide) r
theorem tX4_beansMissing_58 (r : RQ G mX4_beansMissing d 59 [x0, x1, x2, x3, x4] (.int (nI 0) :: S) (h) P) : RQ G mX4_beansMissing d 58 [x0, x1, x2, x3, x4] (S) h P := q_iconst (M := mX4_beansMissing) (pc := 58) dX4_beansMissing_58 (by decide) r
theorem tX4_beansMissing_59 {x y : Int32} (r : RQ G mX4_beansMissing d 60 [x0, x1, x2, x3, x4] (.int (x + y) :: S) (h) P) : RQ G mX4_beansMissing d 59 [x0, x1, x2, x3, x4] (.int y :: .int x :: S) h P := q_iadd (M := mX4_beansMissing) (pc := 59) dX4_beansMissing_59 r
theorem tX4_beansMissing_60 (r : RQ G mX4_beansMissing d 61 [x0, x1, x2, x3, x4] (.int (nI 1) :: S) (h) P) : RQ G mX4_beansMissing d 60 [x0, x1, x2, x3, x4] (S) h P := q_iconst (M := mX4_beansMissing) (pc := 60) dX4_beansMissing_60 (by decide) r
theorem tX4_beansMissing_61 {x y : Int32} (r : RQ G mX4_beansMissing d 62 [x0, x1, x2, x3, x4] (.int (x + y) :: S) (h) P) : RQ G mX4_beansMissing d 61 [x0, x1, x2, x3, x4] (.int y :: .int x :: S) h P := q_iadd (M := mX4_beansMissing) (pc := 61) dX4_beansMissing_61 r
theorem tX4_beansMissing_62 (r : RQ G mX4_beansMissing d 63 [x0, x1, x2, x3, x4] (.int (nI 2) :: S) (h) P) : RQ G mX4_beansMissing d 62 [x0, x1, x2, x3, x4] (S) h P := q_iconst (M := mX4_beansMissing) (pc := 62) dX4_beansMissing_62 (by decide) r
theorem tX4_beansMissing_63 {x y : Int32} (hne : ¬ y = 0) (r : RQ G mX4_beansMissing d 64 [x0, x1, x2, x3, x4] (.int (x / y) :: S) (h) P) : RQ G mX4_beansMissing d 63 [x0, x1, x2, x3, x4] (.int y :: .int x :: S) h P := q_idiv (M := mX4_beansMissing) (pc := 63) dX4_beansMissing_63 hne r
theorem tX4_beansMissing_64 {v : Int32} (ho : ok1 x1 = true := by rfl) (r : RQ G mX4_beansMissing d 65 [x0, x1, some (.int v), x3, x4] (S) (h) P) : RQ G mX4_beansMissing d 64 [x0, x1, x2, x3, x4] (.int v :: S) h P := q_istore_n (M := mX4_beansMissing) (pc := 64) dX4_beansMissing_64 rfl (Nat.le_of_ble_eq_true rfl) ho r
theorem tX4_beansMissing_65 (r : RQ G mX4_beansMissing d 66 [x0, x1, x2, x3, x4] (.int (nI 0) :: S) (h) P) : RQ G mX4_beansMissing d 65 [x0, x1, x2, x3, x4] (S) h P := q_iconst (M := mX4_beansMissing) (pc := 65) dX4_beansMissing_65 (by decide) r
theorem tX4_beansMissing_66 {v : Int32} (ho : ok1 x2 = true := by rfl) (r : RQ G mX4_beansMissing d 67 [x0, x1, x2, some (.int v), x4] (S) (h) P) : RQ G mX4_beansMissing d 66 [x0, x1, x2, x3, x4] (.int v :: S) h P := q_istore_n (M := mX4_beansMissing) (pc := 66) dX4_beansMissing_66 rfl (Nat.le_of_ble_eq_true rfl) ho r
theorem tX4_beansMissing_67 {v : Int32} (r : RQ G mX4_beansMissing d 68 [x0, x1, x2, some (.int v), x4] (.int v :: S) (h) P) : RQ G mX4_beansMissing d 67 [x0, x1, x2, some (.int v), x4] (S) h P := q_iload_n (M := mX4_beansMissing) (pc := 67) dX4_beansMissing_67 rfl rfl r
theorem tX4_beansMissing_68 (r : RQ G mX4_beansMissing d 70 [x0, x1, x2, x3, x4] (.int (nI 6) :: S) (h) P) : RQ G mX4_beansMissing d 68 [x0, x1, x2, x3, x4] (S) h P := q_bipush (M := mX4_beansMissing) (pc := 68) dX4_beansMissing_68 (by decide) r
theorem tX4_beansMissing_70 {x y : Int32} (kt : y ≤ x → RQ G mX4_beansMissing d 125 [x0, x1, x2, x3, x4] S h P) (kf : ¬ y ≤ x → RQ G mX4_beansMissing d 73 [x0, x1, x2, x3, x4] S h P) : RQ G mX4_beansMissing d 70 [x0, x1, x2, x3, x4] (.int y :: .int x :: S) h P := q_icmp_ge (M := mX4_beansMissing) (pc := 70) dX4_beansMissing_70 (by decide) kt kf
theorem tX4_beansMissing_73 {v : Int32} (r : RQ G mX4_beansMissing d 74 [x0, x1, x2, some (.int v), x4] (.int v :: S) (h) P) : RQ G mX4_beansMissing d 73 [x0, x1, x2, some (.int v), x4] (S) h P := q_iload_n (M := mX4_beansMissing) (pc := 73) dX4_beansMissing_73 rfl rfl r
theorem tX4_beansMissing_74 {k : Nat} (r : RQ G mX4_beansMissing d 75 [some (.ref k), x1, x2, x3, x4] (.ref k :: S) (h) P) : RQ G mX4_beansMissing d 74 [some (.ref k), x1, x2, x3, x4] (S) h P := q_aload_n (M := mX4_beansMissing) (pc := 74) (r0 := some k) dX4_beansMissing_74 rfl rfl r
theorem tX4_beansMissing_75 {i : Nat} {vs : List Value} {v : Value} (ha : At h i (.inr (3, vs))) (hv : vs[7]? = some v) (r : RQ G mX4_beansMissing d 78 [x0, x1, x2, x3, x4] (v :: S) (h) P) : RQ G mX4_beansMissing d 75 [x0, x1, x2, x3, x4] (.ref i :: S) h P := q_get (M := mX4_beansMissing) (pc := 75) (kf := 7) dX4_beansMissing_75 (show CL[3]? = some (RX4, TX4, 10) from rfl) inA4 (by decide) rfl w170 ha hv r
theorem tX4_beansMissing_78 {x y : Int32} (kt : x = y → RQ G mX4_beansMissing d 119 [x0, x1, x2, x3, x4] S h P) (kf : ¬ x = y → RQ G mX4_beansMissing d 81 [x0, x1, x2, x3, x4] S h P) : RQ G mX4_beansMissing d 78 [x0, x1, x2, x3, x4] (.int y :: .int x :: S) h P := q_icmp_eq (M := mX4_beansMissing) (pc := 78) dX4_beansMissing_78 (by decide) kt kf
theorem tX4_beansMissing_81 {v : Int32} (r : RQ G mX4_beansMissing d 82 [x0, x1, x2, some (.int v), x4] (.int v :: S) (h) P) : RQ G mX4_beansMissing d 81 [x0, x1, x2, some (.int v), x4] (S) h P := q_iload_n (M := mX4_beansMissing) (pc := 81) dX4_beansMissing_81 rfl rfl r
theorem tX4_beansMissing_82 {v : Int32} (r : RQ G mX4_beansMissing d 83 [x0, some (.int v), x2, x3, x4] (.int v :: S) (h) P) : RQ G mX4_beansMissing d 82 [x0, some (.int v), x2, x3, x4] (S) h P := q_iload_n (M := mX4_beansMissing) (pc := 82) dX4_beansMissing_82 rfl rfl r
theorem tX4_beansMissing_83 {x y : Int32} (kt : x = y → RQ G mX4_beansMissing d 119 [x0, x1, x2, x3, x4] S h P) (kf : ¬ x = y → RQ G mX4_beansMissing d 86 [x0, x1, x2, x3, x4] S h P) : RQ G mX4_beansMissing d 83 [x0, x1, x2, x3, x4] (.int y :: .int x :: S) h P := q_icmp_eq (M := mX4_beansMissing) (pc := 83) dX4_beansMissing_83 (by decide) kt kf
theorem tX4_beansMissing_86 {k : Nat} (r : RQ G mX4_beansMissing d 87 [some (.ref k), x1, x2, x3, x4] (.ref k :: S) (h) P) : RQ G mX4_beansMissing d 86 [some (.ref k), x1, x2, x3, x4] (S) h P := q_aload_n (M := mX4_beansMissing) (pc := 86) (r0 := some k) dX4_beansMissing_86 rfl rfl r
theorem tX4_beansMissing_87 {i : Nat} {vs : List Value} {v : Value} (ha : At h i (.inr (3, vs))) (hv : vs[1]? = some v) (r : RQ G mX4_beansMissing d 90 [x0, x1, x2, x3, x4] (v :: S) (h) P) : RQ G mX4_beansMissing d 87 [x0, x1, x2, x3, x4] (.ref i :: S) h P := q_get (M := mX4_beansMissing) (pc := 87) (kf := 1) dX4_beansMissing_87 (show CL[3]? = some (RX4, TX4, 10) from rfl) inA4 (by decide) rfl w155 ha hv r
theorem tX4_beansMissing_90 {v : Int32} (r : RQ G mX4_beansMissing d 91 [x0, x1, x2, some (.int v), x4] (.int v :: S) (h) P) : RQ G mX4_beansMissing d 90 [x0, x1, x2, some (.int v), x4] (S) h P := q_iload_n (M := mX4_beansMissing) (pc := 90) dX4_beansMissing_90 rfl rfl r
theorem tX4_beansMissing_91 {a n j : Nat} {x : Int32} {f : Nat → Int32} (ha : At h a (.inl (0, n, .inl f))) (hx : x = nI j) (hj : j < n) (hn : n < 2147483648) (r : RQ G mX4_beansMissing d 92 [x0, x1, x2, x3, x4] (.int (f j) :: S) (h) P) : RQ G mX4_beansMissing d 91 [x0, x1, x2, x3, x4] (.int x :: .ref a :: S) h P := q_iald (M := mX4_beansMissing) (pc := 91) dX4_beansMissing_91 ha hx hj hn r
theorem tX4_beansMissing_92 {k : Nat} (r : RQ G mX4_beansMissing d 93 [some (.ref k), x1, x2, x3, x4] (.ref k :: S) (h) P) : RQ G mX4_beansMissing d 92 [some (.ref k), x1, x2, x3, x4] (S) h P := q_aload_n (M := mX4_beansMissing) (pc := 92) (r0 := some k) dX4_beansMissing_92 rfl rfl r
theorem tX4_beansMissing_93 {i : Nat} {vs : List Value} {v : Value} (ha : At h i (.inr (3, vs))) (hv : vs[1]? = some v) (r : RQ G mX4_beansMissing d 96 [x0, x1, x2, x3, x4] (v :: S) (h) P) : RQ G mX4_beansMissing d 93 [x0, x1, x2, x3, x4] (.ref i :: S) h P := q_get (M := mX4_beansMissing) (pc := 93) (kf := 1) dX4_beansMissing_93 (show CL[3]? = some (RX4, TX4, 10) from rfl) inA4 (by decide) rfl w155 ha hv r
theorem tX4_beansMissing_96 {v : Int32} (r : RQ G mX4_beansMissing d 97 [x0, some (.int v), x2, x3, x4] (.int v :: S) (h) P) : RQ G mX4_beansMissing d 96 [x0, some (.int v), x2, x3, x4] (S) h P := q_iload_n (M := mX4_beansMissing) (pc := 96) dX4_beansMissing_96 rfl rfl r
theorem tX4_beansMissing_97 {a n j : Nat} {x : Int32} {f : Nat → Int32} (ha : At h a (.inl (0, n, .inl f))) (hx : x = nI j) (hj : j < n) (hn : n < 2147483648) (r : RQ G mX4_beansMissing d 98 [x0, x1, x2, x3, x4] (.int (f j) :: S) (h) P) : RQ G mX4_beansMissing d 97 [x0, x1, x2, x3, x4] (.int x :: .ref a :: S) h P := q_iald (M := mX4_beansMissing) (pc := 97) dX4_beansMissing_97 ha hx hj hn r
theorem tX4_beansMissing_98 {x y : Int32} (r : RQ G mX4_beansMissing d 99 [x0, x1, x2, x3, x4] (.int (x - y) :: S) (h) P) : RQ G mX4_beansMissing d 98 [x0, x1, x2, x3, x4] (.int y :: .int x :: S) h P := q_isub (M := mX4_beansMissing) (pc := 98) dX4_beansMissing_98 r
theorem tX4_beansMissing_99 {v : Int32} (r : RQ G mX4_beansMissing d 100 [x0, x1, x2, some (.int v), x4] (.int v :: S) (h) P) : RQ G mX4_beansMissing d 99 [x0, x1, x2, some (.int v), x4] (S) h P := q_iload_n (M := mX4_beansMissing) (pc := 99) dX4_beansMissing_99 rfl rfl r
theorem tX4_beansMissing_100 {v : Int32} (r : RQ G mX4_beansMissing d 101 [x0, some (.int v), x2, x3, x4] (.int v :: S) (h) P) : RQ G mX4_beansMissing d 100 [x0, some (.int v), x2, x3, x4] (S) h P := q_iload_n (M := mX4_beansMissing) (pc := 100) dX4_beansMissing_100 rfl rfl r
theorem tX4_beansMissing_101 {x y : Int32} (kt : y ≤ x → RQ G mX4_beansMissing d 108 [x0, x1, x2, x3, x4] S h P) (kf : ¬ y ≤ x → RQ G mX4_beansMissing d 104 [x0, x1, x2, x3, x4] S h P) : RQ G mX4_beansMissing d 101 [x0, x1, x2, x3, x4] (.int y :: .int x :: S) h P := q_icmp_ge (M := mX4_beansMissing) (pc := 101) dX4_beansMissing_101 (by decide) kt kf
theorem tX4_beansMissing_104 (r : RQ G mX4_beansMissing d 105 [x0, x1, x2, x3, x4] (.int (nI 1) :: S) (h) P) : RQ G mX4_beansMissing d 104 [x0, x1, x2, x3, x4] (S) h P := q_iconst (M := mX4_beansMissing) (pc := 104) dX4_beansMissing_104 (by decide) r
theorem tX4_beansMissing_105 (r : RQ G mX4_beansMissing d 109 [x0, x1, x2, x3, x4] S h P) : RQ G mX4_beansMissing d 105 [x0, x1, x2, x3, x4] (S) h P := q_goto (M := mX4_beansMissing) (pc := 105) dX4_beansMissing_105 (by decide) r
theorem tX4_beansMissing_108 (r : RQ G mX4_beansMissing d 109 [x0, x1, x2, x3, x4] (.int (nI 0) :: S) (h) P) : RQ G mX4_beansMissing d 108 [x0, x1, x2, x3, x4] (S) h P := q_iconst (M := mX4_beansMissing) (pc := 108) dX4_beansMissing_108 (by decide) r
theorem tX4_beansMissing_109 {x y : Int32} (r : RQ G mX4_beansMissing d 110 [x0, x1, x2, x3, x4] (.int (x + y) :: S) (h) P) : RQ G mX4_beansMissing d 109 [x0, x1, x2, x3, x4] (.int y :: .int x :: S) h P := q_iadd (M := mX4_beansMissing) (pc := 109) dX4_beansMissing_109 r
theorem tX4_beansMissing_110 {v : Int32} (ho : ok1 x3 = true := by rfl) (r : RQ G mX4_beansMissing d 112 [x0, x1, x2, x3, some (.int v)] (S) (h) P) : RQ G mX4_beansMissing d 110 [x0, x1, x2, x3, x4] (.int v :: S) h P := q_istore (M := mX4_beansMissing) (pc := 110) dX4_beansMissing_110 (Nat.le_of_ble_eq_true rfl) ho r
theorem tX4_beansMissing_112 {v : Int32} (r : RQ G mX4_beansMissing d 113 [x0, x1, some (.int v), x3, x4] (.int v :: S) (h) P) : RQ G mX4_beansMissing d 112 [x0, x1, some (.int v), x3, x4] (S) h P := q_iload_n (M := mX4_beansMissing) (pc := 112) dX4_beansMissing_112 rfl rfl r
theorem tX4_beansMissing_113 {v : Int32} (r : RQ G mX4_beansMissing d 115 [x0, x1, x2, x3, some (.int v)] (.int v :: S) (h) P) : RQ G mX4_beansMissing d 113 [x0, x1, x2, x3, some (.int v)] (S) h P := q_iload (M := mX4_beansMissing) (pc := 113) dX4_beansMissing_113 rfl r
theorem tX4_beansMissing_115 {x y : Int32} (hd : 1 ≤ d) (hst : (S.map fun v => v.category).sum ≤ 8 := by exact Nat.le_of_ble_eq_true rfl) (r : RQ G mX4_beansMissing d 118 [x0, x1, x2, x3, x4] (.int (if x < y then y else x) :: S) (h) P) : RQ G mX4_beansMissing d 115 [x0, x1, x2, x3, x4] (.int y :: .int x :: S) h P := q_max (M := mX4_beansMissing) (pc := 115) dX4_beansMissing_115 w618 w619 w59 w620 hd hst r
theorem tX4_beansMissing_118 {v : Int32} (ho : ok1 x1 = true := by rfl) (r : RQ G mX4_beansMissing d 119 [x0, x1, some (.int v), x3, x4] (S) (h) P) : RQ G mX4_beansMissing d 118 [x0, x1, x2, x3, x4] (.int v :: S) h P := q_istore_n (M := mX4_beansMissing) (pc := 118) dX4_beansMissing_118 rfl (Nat.le_of_ble_eq_true rfl) ho r
theorem tX4_beansMissing_119 {v : Int32} (ho : ok1 x2 = true := by rfl) (r : RQ G mX4_beansMissing d 122 [x0, x1, x2, some (.int (v + (nI 1))), x4] (S) (h) P) : RQ G mX4_beansMissing d 119 [x0, x1, x2, some (.int v), x4] (S) h P := q_iinc (M := mX4_beansMissing) (pc := 119) dX4_beansMissing_119 rfl (congrArg (v + ·) (show Int32.ofInt (1) = (nI 1) by decide)) (Nat.le_of_ble_eq_true rfl) ho r
theorem tX4_beansMissing_122 (r : RQ G mX4_beansMissing d 67 [x0, x1, x2, x3, x4] S h P) : RQ G mX4_beansMissing d 122 [x0, x1, x2, x3, x4] (S) h P := q_goto (M := mX4_beansMissing) (pc := 122) dX4_beansMissing_122 (by decide) r
theorem tX4_beansMissing_125 {v : Int32} (r : RQ G mX4_beansMissing d 126 [x0, x1, some (.int v), x3, x4] (.int v :: S) (h) P) : RQ G mX4_beansMissing d 125 [x0, x1, some (.int v), x3, x4] (S) h P := q_iload_n (M := mX4_beansMissing) (pc := 125) dX4_beansMissing_125 rfl rfl r
theorem tX4_beansMissing_126 {k : Nat} (r : RQ G mX4_beansMissing d 127 [some (.ref k), x1, x2, x3, x4] (.ref k :: S) (h) P) : RQ G mX4_beansMissing d 126 [some (.ref k), x1, x2, x3, x4] (S) h P := q_aload_n (M := mX4_beansMissing) (pc := 126) (r0 := some k) dX4_beansMissing_126 rfl rfl r
theorem tX4_beansMissing_127 {i : Nat} {vs : List Value} {v : Value} (ha : At h i (.inr (3, vs))) (hv : vs[1]? = some v) (r : RQ G mX4_beansMissing d 130 [x0, x1, x2, x3, x4] (v :: S) (h) P) : RQ G mX4_beansMissing d 127 [x0, x1, x2, x3, x4] (.ref i :: S) h P := q_get (M := mX4_beansMissing) (pc := 127) (kf := 1) dX4_beansMissing_127 (show CL[3]? = some (RX4, TX4, 10) from rfl) inA4 (by decide) rfl w155 ha hv r
theorem tX4_beansMissing_130 {k : Nat} (r : RQ G mX4_beansMissing d 131 [some (.ref k), x1, x2, x3, x4] (.ref k :: S) (h) P) : RQ G mX4_beansMissing d 130 [some (.ref k), x1, x2, x3, x4] (S) h P := q_aload_n (M := mX4_beansMissing) (pc := 130) (r0 := some k) dX4_beansMissing_130 rfl rfl r
theorem tX4_beansMissing_131 {i : Nat} {vs : List Value} {v : Value} (ha : At h i (.inr (3, vs))) (hv : vs[7]? = some v) (r : RQ G mX4_beansMissing d 134 [x0, x1, x2, x3, x4] (v :: S) (h) P) : RQ G mX4_beansMissing d 131 [x0, x1, x2, x3, x4] (.ref i :: S) h P := q_get (M := mX4_beansMissing) (pc := 131) (kf := 7) dX4_beansMissing_131 (show CL[3]? = some (RX4, TX4, 10) from rfl) inA4 (by decide) rfl w170 ha hv r
theorem tX4_beansMissing_134 {a n j : Nat} {x : Int32} {f : Nat → Int32} (ha : At h a (.inl (0, n, .inl f))) (hx : x = nI j) (hj : j < n) (hn : n < 2147483648) (r : RQ G mX4_beansMissing d 135 [x0, x1, x2, x3, x4] (.int (f j) :: S) (h) P) : RQ G mX4_beansMissing d 134 [x0, x1, x2, x3, x4] (.int x :: .ref a :: S) h P := q_iald (M := mX4_beansMissing) (pc := 134) dX4_beansMissing_134 ha hx hj hn r
theorem tX4_beansMissing_135 {x y : Int32} (kt : y < x → RQ G mX4_beansMissing d 142 [x0, x1, x2, x3, x4] S h P) (kf : ¬ y < x → RQ G mX4_beansMissing d 138 [x0, x1, x2, x3, x4] S h P) : RQ G mX4_beansMissing d 135 [x0, x1, x2, x3, x4] (.int y :: .int x :: S) h P := q_icmp_gt (M := mX4_beansMissing) (pc := 135) dX4_beansMissing_135 (by decide) kt kf
theorem tX4_beansMissing_138 {v : Int32} (r : RQ G mX4_beansMissing d 139 [x0, x1, some (.int v), x3, x4] (.int v :: S) (h) P) : RQ G mX4_beansMissing d 138 [x0, x1, some (.int v), x3, x4] (S) h P := q_iload_n (M := mX4_beansMissing) (pc := 138) dX4_beansMissing_138 rfl rfl r
theorem tX4_beansMissing_139 (r : RQ G mX4_beansMissing d 143 [x0, x1, x2, x3, x4] S h P) : RQ G mX4_beansMissing d 139 [x0, x1, x2, x3, x4] (S) h P := q_goto (M := mX4_beansMissing) (pc := 139) dX4_beansMissing_139 (by decide) r
theorem tX4_beansMissing_142 (r : RQ G mX4_beansMissing d 143 [x0, x1, x2, x3, x4] (.int (-1) :: S) (h) P) : RQ G mX4_beansMissing d 142 [x0, x1, x2, x3, x4] (S) h P := q_iconst (M := mX4_beansMissing) (pc := 142) dX4_beansMissing_142 (by decide) r
theorem tX4_beansMissing_143 {x : Int32} (hP : P (.inl (some (.int x))) h) : RQ G mX4_beansMissing d 143 [x0, x1, x2, x3, x4] ([.int x]) h P := q_ireturn (M := mX4_beansMissing) (pc := 143) (ty := .int) dX4_beansMissing_143 rfl rfl hP
end T
theorem dX4_pool_0 : decode cX4_pool 0 = .ok (.aload_n 0, 1) := by decide +kernel
theorem dX4_pool_1 : decode cX4_pool 1 = .ok (.iconst 0, 1) := by decide +kernel
theorem dX4_pool_2 : decode cX4_pool 2 = .ok (.putfield 69, 3) := by decide +kernel
theorem dX4_pool_5 : decode cX4_pool 5 = .ok (.iconst 0, 1) := by decide +kernel
theorem dX4_pool_6 : decode cX4_pool 6 = .ok (.istore_n 2, 1) := by decide +kernel
theorem dX4_pool_7 : decode cX4_pool 7 = .ok (.iload_n 2, 1) := by decide +kernel
theorem dX4_pool_8 : decode cX4_pool 8 = .ok (.bipush 6, 2) := by decide +kernel
theorem dX4_pool_10 : decode cX4_pool 10 = .ok (.if_icmp .ge 23, 3) := by decide +kernel
theorem dX4_pool_13 : decode cX4_pool 13 = .ok (.aload_n 0, 1) := by decide +kernel
theorem dX4_pool_14 : decode cX4_pool 14 = .ok (.getfield 15, 3) := by decide +kernel
theorem dX4_pool_17 : decode cX4_pool 17 = .ok (.iload_n 2, 1) := by decide +kernel
theorem dX4_pool_18 : decode cX4_pool 18 = .ok (.iconst 0, 1) := by decide +kernel
theorem dX4_pool_19 : decode cX4_pool 19 = .ok (.iastore, 1) := by decide +kernel
theorem dX4_pool_20 : decode cX4_pool 20 = .ok (.aload_n 0, 1) := by decide +kernel
theorem dX4_pool_21 : decode cX4_pool 21 = .ok (.getfield 18, 3) := by decide +kernel
theorem dX4_pool_24 : decode cX4_pool 24 = .ok (.iload_n 2, 1) := by decide +kernel
theorem dX4_pool_25 : decode cX4_pool 25 = .ok (.iconst 0, 1) := by decide +kernel
theorem dX4_pool_26 : decode cX4_pool 26 = .ok (.iastore, 1) := by decide +kernel
theorem dX4_pool_27 : decode cX4_pool 27 = .ok (.iinc 2 1, 3) := by decide +kernel
theorem dX4_pool_30 : decode cX4_pool 30 = .ok (.goto (-23), 3) := by decide +kernel
theorem dX4_pool_33 : decode cX4_pool 33 = .ok (.iconst 0, 1) := by decide +kernel
theorem dX4_pool_34 : decode cX4_pool 34 = .ok (.istore_n 2, 1) := by decide +kernel
theorem dX4_pool_35 : decode cX4_pool 35 = .ok (.iload_n 2, 1) := by decide +kernel
theorem dX4_pool_36 : decode cX4_pool 36 = .ok (.bipush 6, 2) := by decide +kernel
theorem dX4_pool_38 : decode cX4_pool 38 = .ok (.if_icmp .ge 41, 3) := by decide +kernel
theorem dX4_pool_41 : decode cX4_pool 41 = .ok (.aload_n 0, 1) := by decide +kernel
theorem dX4_pool_42 : decode cX4_pool 42 = .ok (.getfield 15, 3) := by decide +kernel
theorem dX4_pool_45 : decode cX4_pool 45 = .ok (.aload_n 1, 1) := by decide +kernel
theorem dX4_pool_46 : decode cX4_pool 46 = .ok (.iload_n 2, 1) := by decide +kernel
theorem dX4_pool_47 : decode cX4_pool 47 = .ok (.iaload, 1) := by decide +kernel
theorem dX4_pool_48 : decode cX4_pool 48 = .ok (.dup2, 1) := by decide +kernel
theorem dX4_pool_49 : decode cX4_pool 49 = .ok (.iaload, 1) := by decide +kernel
theorem dX4_pool_50 : decode cX4_pool 50 = .ok (.aload_n 0, 1) := by decide +kernel
theorem dX4_pool_51 : decode cX4_pool 51 = .ok (.getfield 9, 3) := by decide +kernel
theorem dX4_pool_54 : decode cX4_pool 54 = .ok (.iload_n 2, 1) := by decide +kernel
theorem dX4_pool_55 : decode cX4_pool 55 = .ok (.iaload, 1) := by decide +kernel
theorem dX4_pool_56 : decode cX4_pool 56 = .ok (.iadd, 1) := by decide +kernel
theorem dX4_pool_57 : decode cX4_pool 57 = .ok (.iastore, 1) := by decide +kernel
theorem dX4_pool_58 : decode cX4_pool 58 = .ok (.aload_n 0, 1) := by decide +kernel
theorem dX4_pool_59 : decode cX4_pool 59 = .ok (.dup, 1) := by decide +kernel
theorem dX4_pool_60 : decode cX4_pool 60 = .ok (.getfield 69, 3) := by decide +kernel
theorem dX4_pool_63 : decode cX4_pool 63 = .ok (.aload_n 0, 1) := by decide +kernel
theorem dX4_pool_64 : decode cX4_pool 64 = .ok (.getfield 9, 3) := by decide +kernel
theorem dX4_pool_67 : decode cX4_pool 67 = .ok (.iload_n 2, 1) := by decide +kernel
theorem dX4_pool_68 : decode cX4_pool 68 = .ok (.iaload, 1) := by decide +kernel
theorem dX4_pool_69 : decode cX4_pool 69 = .ok (.iadd, 1) := by decide +kernel
theorem dX4_pool_70 : decode cX4_pool 70 = .ok (.putfield 69, 3) := by decide +kernel
theorem dX4_pool_73 : decode cX4_pool 73 = .ok (.iinc 2 1, 3) := by decide +kernel
theorem dX4_pool_76 : decode cX4_pool 76 = .ok (.goto (-41), 3) := by decide +kernel
theorem dX4_pool_79 : decode cX4_pool 79 = .ok (.return_, 1) := by decide +kernel
section T
variable {G : GT} {d : Nat} {S : List Value} {h : AH} {P : OC → AH → Prop} {x0 x1 x2 x3 x4 x5 x6 x7 x8 x9 x10 x11 x12 x13 x14 x15 : Option Value}
theorem tX4_pool_0 {k : Nat} (r : RQ G mX4_pool d 1 [some (.ref k), x1, x2] (.ref k :: S) (h) P) : RQ G mX4_pool d 0 [some (.ref k), x1, x2] (S) h P := q_aload_n (M := mX4_pool) (pc := 0) (r0 := some k) dX4_pool_0 rfl rfl r
theorem tX4_pool_1 (r : RQ G mX4_pool d 2 [x0, x1, x2] (.int (nI 0) :: S) (h) P) : RQ G mX4_pool d 1 [x0, x1, x2] (S) h P := q_iconst (M := mX4_pool) (pc := 1) dX4_pool_1 (by decide) r
theorem tX4_pool_2 {i : Nat} {vs : List Value} {v : Int32} (ha : At h i (.inr (3, vs))) (hlen : vs.length = 10) (r : RQ G mX4_pool d 5 [x0, x1, x2] (S) (hset h i (.inr (3, vs.set 6 (.int v)))) P) : RQ G mX4_pool d 2 [x0, x1, x2] (.int v :: .ref i :: S) h P := q_put (M := mX4_pool) (pc := 2) (kf := 6) (host := "") dX4_pool_2 (show CL[3]? = some (RX4, TX4, 10) from rfl) inA4 tyX4_ok nmX4 (by decide) rfl w168 rfl (tyX4_ok 6 (by decide)) (nfit_int v) (by rw [hlen]; decide) ha r
theorem tX4_pool_5 (r : RQ G mX4_pool d 6 [x0, x1, x2] (.int (nI 0) :: S) (h) P) : RQ G mX4_pool d 5 [x0, x1, x2] (S) h P := q_iconst (M := mX4_pool) (pc := 5) dX4_pool_5 (by decide) r
theorem tX4_pool_6 {v : Int32} (ho : ok1 x1 = true := by rfl) (r : RQ G mX4_pool d 7 [x0, x1, some (.int v)] (S) (h) P) : RQ G mX4_pool d 6 [x0, x1, x2] (.int v :: S) h P := q_istore_n (M := mX4_pool) (pc := 6) dX4_pool_6 rfl (Nat.le_of_ble_eq_true rfl) ho r
theorem tX4_pool_7 {v : Int32} (r : RQ G mX4_pool d 8 [x0, x1, some (.int v)] (.int v :: S) (h) P) : RQ G mX4_pool d 7 [x0, x1, some (.int v)] (S) h P := q_iload_n (M := mX4_pool) (pc := 7) dX4_pool_7 rfl rfl r
theorem tX4_pool_8 (r : RQ G mX4_pool d 10 [x0, x1, x2] (.int (nI 6) :: S) (h) P) : RQ G mX4_pool d 8 [x0, x1, x2] (S) h P := q_bipush (M := mX4_pool) (pc := 8) dX4_pool_8 (by decide) r
theorem tX4_pool_10 {x y : Int32} (kt : y ≤ x → RQ G mX4_pool d 33 [x0, x1, x2] S h P) (kf : ¬ y ≤ x → RQ G mX4_pool d 13 [x0, x1, x2] S h P) : RQ G mX4_pool d 10 [x0, x1, x2] (.int y :: .int x :: S) h P := q_icmp_ge (M := mX4_pool) (pc := 10) dX4_pool_10 (by decide) kt kf
theorem tX4_pool_13 {k : Nat} (r : RQ G mX4_pool d 14 [some (.ref k), x1, x2] (.ref k :: S) (h) P) : RQ G mX4_pool d 13 [some (.ref k), x1, x2] (S) h P := q_aload_n (M := mX4_pool) (pc := 13) (r0 := some k) dX4_pool_13 rfl rfl r
theorem tX4_pool_14 {i : Nat} {vs : List Value} {v : Value} (ha : At h i (.inr (3, vs))) (hv : vs[1]? = some v) (r : RQ G mX4_pool d 17 [x0, x1, x2] (v :: S) (h) P) : RQ G mX4_pool d 14 [x0, x1, x2] (.ref i :: S) h P := q_get (M := mX4_pool) (pc := 14) (kf := 1) dX4_pool_14 (show CL[3]? = some (RX4, TX4, 10) from rfl) inA4 (by decide) rfl w155 ha hv r
theorem tX4_pool_17 {v : Int32} (r : RQ G mX4_pool d 18 [x0, x1, some (.int v)] (.int v :: S) (h) P) : RQ G mX4_pool d 17 [x0, x1, some (.int v)] (S) h P := q_iload_n (M := mX4_pool) (pc := 17) dX4_pool_17 rfl rfl r
theorem tX4_pool_18 (r : RQ G mX4_pool d 19 [x0, x1, x2] (.int (nI 0) :: S) (h) P) : RQ G mX4_pool d 18 [x0, x1, x2] (S) h P := q_iconst (M := mX4_pool) (pc := 18) dX4_pool_18 (by decide) r
theorem tX4_pool_19 {a n j : Nat} {x : Int32} {v : Int32} {f : Nat → Int32} (ha : At h a (.inl (0, n, .inl f))) (hx : x = nI j) (hj : j < n) (hn : n < 2147483648) (r : RQ G mX4_pool d 20 [x0, x1, x2] (S) (hset h a (.inl (0, n, .inl (upd f j v)))) P) : RQ G mX4_pool d 19 [x0, x1, x2] (.int v :: .int x :: .ref a :: S) h P := q_iast (M := mX4_pool) (pc := 19) dX4_pool_19 ha hx hj hn r
theorem tX4_pool_20 {k : Nat} (r : RQ G mX4_pool d 21 [some (.ref k), x1, x2] (.ref k :: S) (h) P) : RQ G mX4_pool d 20 [some (.ref k), x1, x2] (S) h P := q_aload_n (M := mX4_pool) (pc := 20) (r0 := some k) dX4_pool_20 rfl rfl r
theorem tX4_pool_21 {i : Nat} {vs : List Value} {v : Value} (ha : At h i (.inr (3, vs))) (hv : vs[2]? = some v) (r : RQ G mX4_pool d 24 [x0, x1, x2] (v :: S) (h) P) : RQ G mX4_pool d 21 [x0, x1, x2] (.ref i :: S) h P := q_get (M := mX4_pool) (pc := 21) (kf := 2) dX4_pool_21 (show CL[3]? = some (RX4, TX4, 10) from rfl) inA4 (by decide) rfl w157 ha hv r
theorem tX4_pool_24 {v : Int32} (r : RQ G mX4_pool d 25 [x0, x1, some (.int v)] (.int v :: S) (h) P) : RQ G mX4_pool d 24 [x0, x1, some (.int v)] (S) h P := q_iload_n (M := mX4_pool) (pc := 24) dX4_pool_24 rfl rfl r
theorem tX4_pool_25 (r : RQ G mX4_pool d 26 [x0, x1, x2] (.int (nI 0) :: S) (h) P) : RQ G mX4_pool d 25 [x0, x1, x2] (S) h P := q_iconst (M := mX4_pool) (pc := 25) dX4_pool_25 (by decide) r
theorem tX4_pool_26 {a n j : Nat} {x : Int32} {v : Int32} {f : Nat → Int32} (ha : At h a (.inl (0, n, .inl f))) (hx : x = nI j) (hj : j < n) (hn : n < 2147483648) (r : RQ G mX4_pool d 27 [x0, x1, x2] (S) (hset h a (.inl (0, n, .inl (upd f j v)))) P) : RQ G mX4_pool d 26 [x0, x1, x2] (.int v :: .int x :: .ref a :: S) h P := q_iast (M := mX4_pool) (pc := 26) dX4_pool_26 ha hx hj hn r
theorem tX4_pool_27 {v : Int32} (ho : ok1 x1 = true := by rfl) (r : RQ G mX4_pool d 30 [x0, x1, some (.int (v + (nI 1)))] (S) (h) P) : RQ G mX4_pool d 27 [x0, x1, some (.int v)] (S) h P := q_iinc (M := mX4_pool) (pc := 27) dX4_pool_27 rfl (congrArg (v + ·) (show Int32.ofInt (1) = (nI 1) by decide)) (Nat.le_of_ble_eq_true rfl) ho r
theorem tX4_pool_30 (r : RQ G mX4_pool d 7 [x0, x1, x2] S h P) : RQ G mX4_pool d 30 [x0, x1, x2] (S) h P := q_goto (M := mX4_pool) (pc := 30) dX4_pool_30 (by decide) r
theorem tX4_pool_33 (r : RQ G mX4_pool d 34 [x0, x1, x2] (.int (nI 0) :: S) (h) P) : RQ G mX4_pool d 33 [x0, x1, x2] (S) h P := q_iconst (M := mX4_pool) (pc := 33) dX4_pool_33 (by decide) r
theorem tX4_pool_34 {v : Int32} (ho : ok1 x1 = true := by rfl) (r : RQ G mX4_pool d 35 [x0, x1, some (.int v)] (S) (h) P) : RQ G mX4_pool d 34 [x0, x1, x2] (.int v :: S) h P := q_istore_n (M := mX4_pool) (pc := 34) dX4_pool_34 rfl (Nat.le_of_ble_eq_true rfl) ho r
theorem tX4_pool_35 {v : Int32} (r : RQ G mX4_pool d 36 [x0, x1, some (.int v)] (.int v :: S) (h) P) : RQ G mX4_pool d 35 [x0, x1, some (.int v)] (S) h P := q_iload_n (M := mX4_pool) (pc := 35) dX4_pool_35 rfl rfl r
theorem tX4_pool_36 (r : RQ G mX4_pool d 38 [x0, x1, x2] (.int (nI 6) :: S) (h) P) : RQ G mX4_pool d 36 [x0, x1, x2] (S) h P := q_bipush (M := mX4_pool) (pc := 36) dX4_pool_36 (by decide) r
theorem tX4_pool_38 {x y : Int32} (kt : y ≤ x → RQ G mX4_pool d 79 [x0, x1, x2] S h P) (kf : ¬ y ≤ x → RQ G mX4_pool d 41 [x0, x1, x2] S h P) : RQ G mX4_pool d 38 [x0, x1, x2] (.int y :: .int x :: S) h P := q_icmp_ge (M := mX4_pool) (pc := 38) dX4_pool_38 (by decide) kt kf
theorem tX4_pool_41 {k : Nat} (r : RQ G mX4_pool d 42 [some (.ref k), x1, x2] (.ref k :: S) (h) P) : RQ G mX4_pool d 41 [some (.ref k), x1, x2] (S) h P := q_aload_n (M := mX4_pool) (pc := 41) (r0 := some k) dX4_pool_41 rfl rfl r
theorem tX4_pool_42 {i : Nat} {vs : List Value} {v : Value} (ha : At h i (.inr (3, vs))) (hv : vs[1]? = some v) (r : RQ G mX4_pool d 45 [x0, x1, x2] (v :: S) (h) P) : RQ G mX4_pool d 42 [x0, x1, x2] (.ref i :: S) h P := q_get (M := mX4_pool) (pc := 42) (kf := 1) dX4_pool_42 (show CL[3]? = some (RX4, TX4, 10) from rfl) inA4 (by decide) rfl w155 ha hv r
theorem tX4_pool_45 {k : Nat} (r : RQ G mX4_pool d 46 [x0, some (.ref k), x2] (.ref k :: S) (h) P) : RQ G mX4_pool d 45 [x0, some (.ref k), x2] (S) h P := q_aload_n (M := mX4_pool) (pc := 45) (r0 := some k) dX4_pool_45 rfl rfl r
theorem tX4_pool_46 {v : Int32} (r : RQ G mX4_pool d 47 [x0, x1, some (.int v)] (.int v :: S) (h) P) : RQ G mX4_pool d 46 [x0, x1, some (.int v)] (S) h P := q_iload_n (M := mX4_pool) (pc := 46) dX4_pool_46 rfl rfl r
theorem tX4_pool_47 {a n j : Nat} {x : Int32} {f : Nat → Int32} (ha : At h a (.inl (0, n, .inl f))) (hx : x = nI j) (hj : j < n) (hn : n < 2147483648) (r : RQ G mX4_pool d 48 [x0, x1, x2] (.int (f j) :: S) (h) P) : RQ G mX4_pool d 47 [x0, x1, x2] (.int x :: .ref a :: S) h P := q_iald (M := mX4_pool) (pc := 47) dX4_pool_47 ha hx hj hn r
theorem tX4_pool_48 {v w : Value} (hv : ok1 (some v) = true := by rfl) (hw : ok1 (some w) = true := by rfl) (r : RQ G mX4_pool d 49 [x0, x1, x2] (v :: w :: v :: w :: S) (h) P) : RQ G mX4_pool d 48 [x0, x1, x2] (v :: w :: S) h P := q_dup2 (M := mX4_pool) (pc := 48) dX4_pool_48 hv hw r
theorem tX4_pool_49 {a n j : Nat} {x : Int32} {f : Nat → Int32} (ha : At h a (.inl (0, n, .inl f))) (hx : x = nI j) (hj : j < n) (hn : n < 2147483648) (r : RQ G mX4_pool d 50 [x0, x1, x2] (.int (f j) :: S) (h) P) : RQ G mX4_pool d 49 [x0, x1, x2] (.int x :: .ref a :: S) h P := q_iald (M := mX4_pool) (pc := 49) dX4_pool_49 ha hx hj hn r
theorem tX4_pool_50 {k : Nat} (r : RQ G mX4_pool d 51 [some (.ref k), x1, x2] (.ref k :: S) (h) P) : RQ G mX4_pool d 50 [some (.ref k), x1, x2] (S) h P := q_aload_n (M := mX4_pool) (pc := 50) (r0 := some k) dX4_pool_50 rfl rfl r
theorem tX4_pool_51 {i : Nat} {vs : List Value} {v : Value} (ha : At h i (.inr (3, vs))) (hv : vs[0]? = some v) (r : RQ G mX4_pool d 54 [x0, x1, x2] (v :: S) (h) P) : RQ G mX4_pool d 51 [x0, x1, x2] (.ref i :: S) h P := q_get (M := mX4_pool) (pc := 51) (kf := 0) dX4_pool_51 (show CL[3]? = some (RX4, TX4, 10) from rfl) inA4 (by decide) rfl w151 ha hv r
theorem tX4_pool_54 {v : Int32} (r : RQ G mX4_pool d 55 [x0, x1, some (.int v)] (.int v :: S) (h) P) : RQ G mX4_pool d 54 [x0, x1, some (.int v)] (S) h P := q_iload_n (M := mX4_pool) (pc := 54) dX4_pool_54 rfl rfl r
theorem tX4_pool_55 {a n j : Nat} {x : Int32} {f : Nat → Int32} (ha : At h a (.inl (0, n, .inl f))) (hx : x = nI j) (hj : j < n) (hn : n < 2147483648) (r : RQ G mX4_pool d 56 [x0, x1, x2] (.int (f j) :: S) (h) P) : RQ G mX4_pool d 55 [x0, x1, x2] (.int x :: .ref a :: S) h P := q_iald (M := mX4_pool) (pc := 55) dX4_pool_55 ha hx hj hn r
theorem tX4_pool_56 {x y : Int32} (r : RQ G mX4_pool d 57 [x0, x1, x2] (.int (x + y) :: S) (h) P) : RQ G mX4_pool d 56 [x0, x1, x2] (.int y :: .int x :: S) h P := q_iadd (M := mX4_pool) (pc := 56) dX4_pool_56 r
theorem tX4_pool_57 {a n j : Nat} {x : Int32} {v : Int32} {f : Nat → Int32} (ha : At h a (.inl (0, n, .inl f))) (hx : x = nI j) (hj : j < n) (hn : n < 2147483648) (r : RQ G mX4_pool d 58 [x0, x1, x2] (S) (hset h a (.inl (0, n, .inl (upd f j v)))) P) : RQ G mX4_pool d 57 [x0, x1, x2] (.int v :: .int x :: .ref a :: S) h P := q_iast (M := mX4_pool) (pc := 57) dX4_pool_57 ha hx hj hn r
theorem tX4_pool_58 {k : Nat} (r : RQ G mX4_pool d 59 [some (.ref k), x1, x2] (.ref k :: S) (h) P) : RQ G mX4_pool d 58 [some (.ref k), x1, x2] (S) h P := q_aload_n (M := mX4_pool) (pc := 58) (r0 := some k) dX4_pool_58 rfl rfl r
theorem tX4_pool_59 {v : Value} (hv : ok1 (some v) = true := by rfl) (r : RQ G mX4_pool d 60 [x0, x1, x2] (v :: v :: S) (h) P) : RQ G mX4_pool d 59 [x0, x1, x2] (v :: S) h P := q_dup (M := mX4_pool) (pc := 59) dX4_pool_59 hv r
theorem tX4_pool_60 {i : Nat} {vs : List Value} {v : Value} (ha : At h i (.inr (3, vs))) (hv : vs[6]? = some v) (r : RQ G mX4_pool d 63 [x0, x1, x2] (v :: S) (h) P) : RQ G mX4_pool d 60 [x0, x1, x2] (.ref i :: S) h P := q_get (M := mX4_pool) (pc := 60) (kf := 6) dX4_pool_60 (show CL[3]? = some (RX4, TX4, 10) from rfl) inA4 (by decide) rfl w168 ha hv r
theorem tX4_pool_63 {k : Nat} (r : RQ G mX4_pool d 64 [some (.ref k), x1, x2] (.ref k :: S) (h) P) : RQ G mX4_pool d 63 [some (.ref k), x1, x2] (S) h P := q_aload_n (M := mX4_pool) (pc := 63) (r0 := some k) dX4_pool_63 rfl rfl r
theorem tX4_pool_64 {i : Nat} {vs : List Value} {v : Value} (ha : At h i (.inr (3, vs))) (hv : vs[0]? = some v) (r : RQ G mX4_pool d 67 [x0, x1, x2] (v :: S) (h) P) : RQ G mX4_pool d 64 [x0, x1, x2] (.ref i :: S) h P := q_get (M := mX4_pool) (pc := 64) (kf := 0) dX4_pool_64 (show CL[3]? = some (RX4, TX4, 10) from rfl) inA4 (by decide) rfl w151 ha hv r
theorem tX4_pool_67 {v : Int32} (r : RQ G mX4_pool d 68 [x0, x1, some (.int v)] (.int v :: S) (h) P) : RQ G mX4_pool d 67 [x0, x1, some (.int v)] (S) h P := q_iload_n (M := mX4_pool) (pc := 67) dX4_pool_67 rfl rfl r
theorem tX4_pool_68 {a n j : Nat} {x : Int32} {f : Nat → Int32} (ha : At h a (.inl (0, n, .inl f))) (hx : x = nI j) (hj : j < n) (hn : n < 2147483648) (r : RQ G mX4_pool d 69 [x0, x1, x2] (.int (f j) :: S) (h) P) : RQ G mX4_pool d 68 [x0, x1, x2] (.int x :: .ref a :: S) h P := q_iald (M := mX4_pool) (pc := 68) dX4_pool_68 ha hx hj hn r
theorem tX4_pool_69 {x y : Int32} (r : RQ G mX4_pool d 70 [x0, x1, x2] (.int (x + y) :: S) (h) P) : RQ G mX4_pool d 69 [x0, x1, x2] (.int y :: .int x :: S) h P := q_iadd (M := mX4_pool) (pc := 69) dX4_pool_69 r
theorem tX4_pool_70 {i : Nat} {vs : List Value} {v : Int32} (ha : At h i (.inr (3, vs))) (hlen : vs.length = 10) (r : RQ G mX4_pool d 73 [x0, x1, x2] (S) (hset h i (.inr (3, vs.set 6 (.int v)))) P) : RQ G mX4_pool d 70 [x0, x1, x2] (.int v :: .ref i :: S) h P := q_put (M := mX4_pool) (pc := 70) (kf := 6) (host := "") dX4_pool_70 (show CL[3]? = some (RX4, TX4, 10) from rfl) inA4 tyX4_ok nmX4 (by decide) rfl w168 rfl (tyX4_ok 6 (by decide)) (nfit_int v) (by rw [hlen]; decide) ha r
theorem tX4_pool_73 {v : Int32} (ho : ok1 x1 = true := by rfl) (r : RQ G mX4_pool d 76 [x0, x1, some (.int (v + (nI 1)))] (S) (h) P) : RQ G mX4_pool d 73 [x0, x1, some (.int v)] (S) h P := q_iinc (M := mX4_pool) (pc := 73) dX4_pool_73 rfl (congrArg (v + ·) (show Int32.ofInt (1) = (nI 1) by decide)) (Nat.le_of_ble_eq_true rfl) ho r
theorem tX4_pool_76 (r : RQ G mX4_pool d 35 [x0, x1, x2] S h P) : RQ G mX4_pool d 76 [x0, x1, x2] (S) h P := q_goto (M := mX4_pool) (pc := 76) dX4_pool_76 (by decide) r
theorem tX4_pool_79 (hP : P (.inl none) h) : RQ G mX4_pool d 79 [x0, x1, x2] ([]) h P := q_return (M := mX4_pool) (pc := 79) dX4_pool_79 rfl hP
end T
theorem dX4_findFirst_0 : decode cX4_findFirst 0 = .ok (.aload_n 0, 1) := by decide +kernel
theorem dX4_findFirst_1 : decode cX4_findFirst 1 = .ok (.iconst (-1), 1) := by decide +kernel
theorem dX4_findFirst_2 : decode cX4_findFirst 2 = .ok (.putfield 33, 3) := by decide +kernel
theorem dX4_findFirst_5 : decode cX4_findFirst 5 = .ok (.iconst 0, 1) := by decide +kernel
theorem dX4_findFirst_6 : decode cX4_findFirst 6 = .ok (.istore_n 1, 1) := by decide +kernel
theorem dX4_findFirst_7 : decode cX4_findFirst 7 = .ok (.iconst 0, 1) := by decide +kernel
theorem dX4_findFirst_8 : decode cX4_findFirst 8 = .ok (.istore_n 2, 1) := by decide +kernel
theorem dX4_findFirst_9 : decode cX4_findFirst 9 = .ok (.iload_n 2, 1) := by decide +kernel
theorem dX4_findFirst_10 : decode cX4_findFirst 10 = .ok (.bipush 6, 2) := by decide +kernel
theorem dX4_findFirst_12 : decode cX4_findFirst 12 = .ok (.if_icmp .ge 31, 3) := by decide +kernel
theorem dX4_findFirst_15 : decode cX4_findFirst 15 = .ok (.aload_n 0, 1) := by decide +kernel
theorem dX4_findFirst_16 : decode cX4_findFirst 16 = .ok (.getfield 15, 3) := by decide +kernel
theorem dX4_findFirst_19 : decode cX4_findFirst 19 = .ok (.iload_n 2, 1) := by decide +kernel
theorem dX4_findFirst_20 : decode cX4_findFirst 20 = .ok (.iaload, 1) := by decide +kernel
theorem dX4_findFirst_21 : decode cX4_findFirst 21 = .ok (.iload_n 1, 1) := by decide +kernel
theorem dX4_findFirst_22 : decode cX4_findFirst 22 = .ok (.if_icmp .le 15, 3) := by decide +kernel
theorem dX4_findFirst_25 : decode cX4_findFirst 25 = .ok (.aload_n 0, 1) := by decide +kernel
theorem dX4_findFirst_26 : decode cX4_findFirst 26 = .ok (.iload_n 2, 1) := by decide +kernel
theorem dX4_findFirst_27 : decode cX4_findFirst 27 = .ok (.putfield 33, 3) := by decide +kernel
theorem dX4_findFirst_30 : decode cX4_findFirst 30 = .ok (.aload_n 0, 1) := by decide +kernel
theorem dX4_findFirst_31 : decode cX4_findFirst 31 = .ok (.getfield 15, 3) := by decide +kernel
theorem dX4_findFirst_34 : decode cX4_findFirst 34 = .ok (.iload_n 2, 1) := by decide +kernel
theorem dX4_findFirst_35 : decode cX4_findFirst 35 = .ok (.iaload, 1) := by decide +kernel
theorem dX4_findFirst_36 : decode cX4_findFirst 36 = .ok (.istore_n 1, 1) := by decide +kernel
theorem dX4_findFirst_37 : decode cX4_findFirst 37 = .ok (.iinc 2 1, 3) := by decide +kernel
theorem dX4_findFirst_40 : decode cX4_findFirst 40 = .ok (.goto (-31), 3) := by decide +kernel
theorem dX4_findFirst_43 : decode cX4_findFirst 43 = .ok (.iconst 0, 1) := by decide +kernel
theorem dX4_findFirst_44 : decode cX4_findFirst 44 = .ok (.istore_n 2, 1) := by decide +kernel
theorem dX4_findFirst_45 : decode cX4_findFirst 45 = .ok (.iconst 0, 1) := by decide +kernel
theorem dX4_findFirst_46 : decode cX4_findFirst 46 = .ok (.istore_n 3, 1) := by decide +kernel
theorem dX4_findFirst_47 : decode cX4_findFirst 47 = .ok (.iload_n 3, 1) := by decide +kernel
theorem dX4_findFirst_48 : decode cX4_findFirst 48 = .ok (.bipush 6, 2) := by decide +kernel
theorem dX4_findFirst_50 : decode cX4_findFirst 50 = .ok (.if_icmp .ge 34, 3) := by decide +kernel
theorem dX4_findFirst_53 : decode cX4_findFirst 53 = .ok (.iload_n 3, 1) := by decide +kernel
theorem dX4_findFirst_54 : decode cX4_findFirst 54 = .ok (.aload_n 0, 1) := by decide +kernel
theorem dX4_findFirst_55 : decode cX4_findFirst 55 = .ok (.getfield 33, 3) := by decide +kernel
theorem dX4_findFirst_58 : decode cX4_findFirst 58 = .ok (.if_icmp .eq 20, 3) := by decide +kernel
theorem dX4_findFirst_61 : decode cX4_findFirst 61 = .ok (.aload_n 0, 1) := by decide +kernel
theorem dX4_findFirst_62 : decode cX4_findFirst 62 = .ok (.getfield 15, 3) := by decide +kernel
theorem dX4_findFirst_65 : decode cX4_findFirst 65 = .ok (.iload_n 3, 1) := by decide +kernel
theorem dX4_findFirst_66 : decode cX4_findFirst 66 = .ok (.iaload, 1) := by decide +kernel
theorem dX4_findFirst_67 : decode cX4_findFirst 67 = .ok (.iload_n 2, 1) := by decide +kernel
theorem dX4_findFirst_68 : decode cX4_findFirst 68 = .ok (.if_icmp .le 10, 3) := by decide +kernel
theorem dX4_findFirst_71 : decode cX4_findFirst 71 = .ok (.aload_n 0, 1) := by decide +kernel
theorem dX4_findFirst_72 : decode cX4_findFirst 72 = .ok (.getfield 15, 3) := by decide +kernel
theorem dX4_findFirst_75 : decode cX4_findFirst 75 = .ok (.iload_n 3, 1) := by decide +kernel
theorem dX4_findFirst_76 : decode cX4_findFirst 76 = .ok (.iaload, 1) := by decide +kernel
theorem dX4_findFirst_77 : decode cX4_findFirst 77 = .ok (.istore_n 2, 1) := by decide +kernel
theorem dX4_findFirst_78 : decode cX4_findFirst 78 = .ok (.iinc 3 1, 3) := by decide +kernel
theorem dX4_findFirst_81 : decode cX4_findFirst 81 = .ok (.goto (-34), 3) := by decide +kernel
theorem dX4_findFirst_84 : decode cX4_findFirst 84 = .ok (.aload_n 0, 1) := by decide +kernel
theorem dX4_findFirst_85 : decode cX4_findFirst 85 = .ok (.iload_n 1, 1) := by decide +kernel
theorem dX4_findFirst_86 : decode cX4_findFirst 86 = .ok (.iload_n 2, 1) := by decide +kernel
theorem dX4_findFirst_87 : decode cX4_findFirst 87 = .ok (.isub, 1) := by decide +kernel
theorem dX4_findFirst_88 : decode cX4_findFirst 88 = .ok (.putfield 72, 3) := by decide +kernel
theorem dX4_findFirst_91 : decode cX4_findFirst 91 = .ok (.return_, 1) := by decide +kernel
section T
variable {G : GT} {d : Nat} {S : List Value} {h : AH} {P : OC → AH → Prop} {x0 x1 x2 x3 x4 x5 x6 x7 x8 x9 x10 x11 x12 x13 x14 x15 : Option Value}
theorem tX4_findFirst_0 {k : Nat} (r : RQ G mX4_findFirst d 1 [some (.ref k), x1, x2, x3] (.ref k :: S) (h) P) : RQ G mX4_findFirst d 0 [some (.ref k), x1, x2, x3] (S) h P := q_aload_n (M := mX4_findFirst) (pc := 0) (r0 := some k) dX4_findFirst_0 rfl rfl r
theorem tX4_findFirst_1 (r : RQ G mX4_findFirst d 2 [x0, x1, x2, x3] (.int (-1) :: S) (h) P) : RQ G mX4_findFirst d 1 [x0, x1, x2, x3] (S) h P := q_iconst (M := mX4_findFirst) (pc := 1) dX4_findFirst_1 (by decide) r
theorem tX4_findFirst_2 {i : Nat} {vs : List Value} {v : Int32} (ha : At h i (.inr (3, vs))) (hlen : vs.length = 10) (r : RQ G mX4_findFirst d 5 [x0, x1, x2, x3] (S) (hset h i (.inr (3, vs.set 7 (.int v)))) P) : RQ G mX4_findFirst d 2 [x0, x1, x2, x3] (.int v :: .ref i :: S) h P := q_put (M := mX4_findFirst) (pc := 2) (kf := 7) (host := "") dX4_findFirst_2 (show CL[3]? = some (RX4, TX4, 10) from rfl) inA4 tyX4_ok nmX4 (by decide) rfl w170 rfl (tyX4_ok 7 (by decide)) (nfit_int v) (by rw [hlen]; decide) ha r
theorem tX4_findFirst_5 (r : RQ G mX4_findFirst d 6 [x0, x1, x2, x3] (.int (nI 0) :: S) (h) P) : RQ G mX4_findFirst d 5 [x0, x1, x2, x3] (S) h P := q_iconst (M := mX4_findFirst) (pc := 5) dX4_findFirst_5 (by decide) r
theorem tX4_findFirst_6 {v : Int32} (ho : ok1 x0 = true := by rfl) (r : RQ G mX4_findFirst d 7 [x0, some (.int v), x2, x3] (S) (h) P) : RQ G mX4_findFirst d 6 [x0, x1, x2, x3] (.int v :: S) h P := q_istore_n (M := mX4_findFirst) (pc := 6) dX4_findFirst_6 rfl (Nat.le_of_ble_eq_true rfl) ho r
theorem tX4_findFirst_7 (r : RQ G mX4_findFirst d 8 [x0, x1, x2, x3] (.int (nI 0) :: S) (h) P) : RQ G mX4_findFirst d 7 [x0, x1, x2, x3] (S) h P := q_iconst (M := mX4_findFirst) (pc := 7) dX4_findFirst_7 (by decide) r
theorem tX4_findFirst_8 {v : Int32} (ho : ok1 x1 = true := by rfl) (r : RQ G mX4_findFirst d 9 [x0, x1, some (.int v), x3] (S) (h) P) : RQ G mX4_findFirst d 8 [x0, x1, x2, x3] (.int v :: S) h P := q_istore_n (M := mX4_findFirst) (pc := 8) dX4_findFirst_8 rfl (Nat.le_of_ble_eq_true rfl) ho r
theorem tX4_findFirst_9 {v : Int32} (r : RQ G mX4_findFirst d 10 [x0, x1, some (.int v), x3] (.int v :: S) (h) P) : RQ G mX4_findFirst d 9 [x0, x1, some (.int v), x3] (S) h P := q_iload_n (M := mX4_findFirst) (pc := 9) dX4_findFirst_9 rfl rfl r
theorem tX4_findFirst_10 (r : RQ G mX4_findFirst d 12 [x0, x1, x2, x3] (.int (nI 6) :: S) (h) P) : RQ G mX4_findFirst d 10 [x0, x1, x2, x3] (S) h P := q_bipush (M := mX4_findFirst) (pc := 10) dX4_findFirst_10 (by decide) r
theorem tX4_findFirst_12 {x y : Int32} (kt : y ≤ x → RQ G mX4_findFirst d 43 [x0, x1, x2, x3] S h P) (kf : ¬ y ≤ x → RQ G mX4_findFirst d 15 [x0, x1, x2, x3] S h P) : RQ G mX4_findFirst d 12 [x0, x1, x2, x3] (.int y :: .int x :: S) h P := q_icmp_ge (M := mX4_findFirst) (pc := 12) dX4_findFirst_12 (by decide) kt kf
theorem tX4_findFirst_15 {k : Nat} (r : RQ G mX4_findFirst d 16 [some (.ref k), x1, x2, x3] (.ref k :: S) (h) P) : RQ G mX4_findFirst d 15 [some (.ref k), x1, x2, x3] (S) h P := q_aload_n (M := mX4_findFirst) (pc := 15) (r0 := some k) dX4_findFirst_15 rfl rfl r
theorem tX4_findFirst_16 {i : Nat} {vs : List Value} {v : Value} (ha : At h i (.inr (3, vs))) (hv : vs[1]? = some v) (r : RQ G mX4_findFirst d 19 [x0, x1, x2, x3] (v :: S) (h) P) : RQ G mX4_findFirst d 16 [x0, x1, x2, x3] (.ref i :: S) h P := q_get (M := mX4_findFirst) (pc := 16) (kf := 1) dX4_findFirst_16 (show CL[3]? = some (RX4, TX4, 10) from rfl) inA4 (by decide) rfl w155 ha hv r
theorem tX4_findFirst_19 {v : Int32} (r : RQ G mX4_findFirst d 20 [x0, x1, some (.int v), x3] (.int v :: S) (h) P) : RQ G mX4_findFirst d 19 [x0, x1, some (.int v), x3] (S) h P := q_iload_n (M := mX4_findFirst) (pc := 19) dX4_findFirst_19 rfl rfl r
theorem tX4_findFirst_20 {a n j : Nat} {x : Int32} {f : Nat → Int32} (ha : At h a (.inl (0, n, .inl f))) (hx : x = nI j) (hj : j < n) (hn : n < 2147483648) (r : RQ G mX4_findFirst d 21 [x0, x1, x2, x3] (.int (f j) :: S) (h) P) : RQ G mX4_findFirst d 20 [x0, x1, x2, x3] (.int x :: .ref a :: S) h P := q_iald (M := mX4_findFirst) (pc := 20) dX4_findFirst_20 ha hx hj hn r
theorem tX4_findFirst_21 {v : Int32} (r : RQ G mX4_findFirst d 22 [x0, some (.int v), x2, x3] (.int v :: S) (h) P) : RQ G mX4_findFirst d 21 [x0, some (.int v), x2, x3] (S) h P := q_iload_n (M := mX4_findFirst) (pc := 21) dX4_findFirst_21 rfl rfl r
theorem tX4_findFirst_22 {x y : Int32} (kt : x ≤ y → RQ G mX4_findFirst d 37 [x0, x1, x2, x3] S h P) (kf : ¬ x ≤ y → RQ G mX4_findFirst d 25 [x0, x1, x2, x3] S h P) : RQ G mX4_findFirst d 22 [x0, x1, x2, x3] (.int y :: .int x :: S) h P := q_icmp_le (M := mX4_findFirst) (pc := 22) dX4_findFirst_22 (by decide) kt kf
theorem tX4_findFirst_25 {k : Nat} (r : RQ G mX4_findFirst d 26 [some (.ref k), x1, x2, x3] (.ref k :: S) (h) P) : RQ G mX4_findFirst d 25 [some (.ref k), x1, x2, x3] (S) h P := q_aload_n (M := mX4_findFirst) (pc := 25) (r0 := some k) dX4_findFirst_25 rfl rfl r
theorem tX4_findFirst_26 {v : Int32} (r : RQ G mX4_findFirst d 27 [x0, x1, some (.int v), x3] (.int v :: S) (h) P) : RQ G mX4_findFirst d 26 [x0, x1, some (.int v), x3] (S) h P := q_iload_n (M := mX4_findFirst) (pc := 26) dX4_findFirst_26 rfl rfl r
theorem tX4_findFirst_27 {i : Nat} {vs : List Value} {v : Int32} (ha : At h i (.inr (3, vs))) (hlen : vs.length = 10) (r : RQ G mX4_findFirst d 30 [x0, x1, x2, x3] (S) (hset h i (.inr (3, vs.set 7 (.int v)))) P) : RQ G mX4_findFirst d 27 [x0, x1, x2, x3] (.int v :: .ref i :: S) h P := q_put (M := mX4_findFirst) (pc := 27) (kf := 7) (host := "") dX4_findFirst_27 (show CL[3]? = some (RX4, TX4, 10) from rfl) inA4 tyX4_ok nmX4 (by decide) rfl w170 rfl (tyX4_ok 7 (by decide)) (nfit_int v) (by rw [hlen]; decide) ha r
theorem tX4_findFirst_30 {k : Nat} (r : RQ G mX4_findFirst d 31 [some (.ref k), x1, x2, x3] (.ref k :: S) (h) P) : RQ G mX4_findFirst d 30 [some (.ref k), x1, x2, x3] (S) h P := q_aload_n (M := mX4_findFirst) (pc := 30) (r0 := some k) dX4_findFirst_30 rfl rfl r
theorem tX4_findFirst_31 {i : Nat} {vs : List Value} {v : Value} (ha : At h i (.inr (3, vs))) (hv : vs[1]? = some v) (r : RQ G mX4_findFirst d 34 [x0, x1, x2, x3] (v :: S) (h) P) : RQ G mX4_findFirst d 31 [x0, x1, x2, x3] (.ref i :: S) h P := q_get (M := mX4_findFirst) (pc := 31) (kf := 1) dX4_findFirst_31 (show CL[3]? = some (RX4, TX4, 10) from rfl) inA4 (by decide) rfl w155 ha hv r
theorem tX4_findFirst_34 {v : Int32} (r : RQ G mX4_findFirst d 35 [x0, x1, some (.int v), x3] (.int v :: S) (h) P) : RQ G mX4_findFirst d 34 [x0, x1, some (.int v), x3] (S) h P := q_iload_n (M := mX4_findFirst) (pc := 34) dX4_findFirst_34 rfl rfl r
theorem tX4_findFirst_35 {a n j : Nat} {x : Int32} {f : Nat → Int32} (ha : At h a (.inl (0, n, .inl f))) (hx : x = nI j) (hj : j < n) (hn : n < 2147483648) (r : RQ G mX4_findFirst d 36 [x0, x1, x2, x3] (.int (f j) :: S) (h) P) : RQ G mX4_findFirst d 35 [x0, x1, x2, x3] (.int x :: .ref a :: S) h P := q_iald (M := mX4_findFirst) (pc := 35) dX4_findFirst_35 ha hx hj hn r
theorem tX4_findFirst_36 {v : Int32} (ho : ok1 x0 = true := by rfl) (r : RQ G mX4_findFirst d 37 [x0, some (.int v), x2, x3] (S) (h) P) : RQ G mX4_findFirst d 36 [x0, x1, x2, x3] (.int v :: S) h P := q_istore_n (M := mX4_findFirst) (pc := 36) dX4_findFirst_36 rfl (Nat.le_of_ble_eq_true rfl) ho r
theorem tX4_findFirst_37 {v : Int32} (ho : ok1 x1 = true := by rfl) (r : RQ G mX4_findFirst d 40 [x0, x1, some (.int (v + (nI 1))), x3] (S) (h) P) : RQ G mX4_findFirst d 37 [x0, x1, some (.int v), x3] (S) h P := q_iinc (M := mX4_findFirst) (pc := 37) dX4_findFirst_37 rfl (congrArg (v + ·) (show Int32.ofInt (1) = (nI 1) by decide)) (Nat.le_of_ble_eq_true rfl) ho r
theorem tX4_findFirst_40 (r : RQ G mX4_findFirst d 9 [x0, x1, x2, x3] S h P) : RQ G mX4_findFirst d 40 [x0, x1, x2, x3] (S) h P := q_goto (M := mX4_findFirst) (pc := 40) dX4_findFirst_40 (by decide) r
theorem tX4_findFirst_43 (r : RQ G mX4_findFirst d 44 [x0, x1, x2, x3] (.int (nI 0) :: S) (h) P) : RQ G mX4_findFirst d 43 [x0, x1, x2, x3] (S) h P := q_iconst (M := mX4_findFirst) (pc := 43) dX4_findFirst_43 (by decide) r
theorem tX4_findFirst_44 {v : Int32} (ho : ok1 x1 = true := by rfl) (r : RQ G mX4_findFirst d 45 [x0, x1, some (.int v), x3] (S) (h) P) : RQ G mX4_findFirst d 44 [x0, x1, x2, x3] (.int v :: S) h P := q_istore_n (M := mX4_findFirst) (pc := 44) dX4_findFirst_44 rfl (Nat.le_of_ble_eq_true rfl) ho r
theorem tX4_findFirst_45 (r : RQ G mX4_findFirst d 46 [x0, x1, x2, x3] (.int (nI 0) :: S) (h) P) : RQ G mX4_findFirst d 45 [x0, x1, x2, x3] (S) h P := q_iconst (M := mX4_findFirst) (pc := 45) dX4_findFirst_45 (by decide) r
theorem tX4_findFirst_46 {v : Int32} (ho : ok1 x2 = true := by rfl) (r : RQ G mX4_findFirst d 47 [x0, x1, x2, some (.int v)] (S) (h) P) : RQ G mX4_findFirst d 46 [x0, x1, x2, x3] (.int v :: S) h P := q_istore_n (M := mX4_findFirst) (pc := 46) dX4_findFirst_46 rfl (Nat.le_of_ble_eq_true rfl) ho r
theorem tX4_findFirst_47 {v : Int32} (r : RQ G mX4_findFirst d 48 [x0, x1, x2, some (.int v)] (.int v :: S) (h) P) : RQ G mX4_findFirst d 47 [x0, x1, x2, some (.int v)] (S) h P := q_iload_n (M := mX4_findFirst) (pc := 47) dX4_findFirst_47 rfl rfl r
theorem tX4_findFirst_48 (r : RQ G mX4_findFirst d 50 [x0, x1, x2, x3] (.int (nI 6) :: S) (h) P) : RQ G mX4_findFirst d 48 [x0, x1, x2, x3] (S) h P := q_bipush (M := mX4_findFirst) (pc := 48) dX4_findFirst_48 (by decide) r
theorem tX4_findFirst_50 {x y : Int32} (kt : y ≤ x → RQ G mX4_findFirst d 84 [x0, x1, x2, x3] S h P) (kf : ¬ y ≤ x → RQ G mX4_findFirst d 53 [x0, x1, x2, x3] S h P) : RQ G mX4_findFirst d 50 [x0, x1, x2, x3] (.int y :: .int x :: S) h P := q_icmp_ge (M := mX4_findFirst) (pc := 50) dX4_findFirst_50 (by decide) kt kf
theorem tX4_findFirst_53 {v : Int32} (r : RQ G mX4_findFirst d 54 [x0, x1, x2, some (.int v)] (.int v :: S) (h) P) : RQ G mX4_findFirst d 53 [x0, x1, x2, some (.int v)] (S) h P := q_iload_n (M := mX4_findFirst) (pc := 53) dX4_findFirst_53 rfl rfl r
theorem tX4_findFirst_54 {k : Nat} (r : RQ G mX4_findFirst d 55 [some (.ref k), x1, x2, x3] (.ref k :: S) (h) P) : RQ G mX4_findFirst d 54 [some (.ref k), x1, x2, x3] (S) h P := q_aload_n (M := mX4_findFirst) (pc := 54) (r0 := some k) dX4_findFirst_54 rfl rfl r
theorem tX4_findFirst_55 {i : Nat} {vs : List Value} {v : Value} (ha : At h i (.inr (3, vs))) (hv : vs[7]? = some v) (r : RQ G mX4_findFirst d 58 [x0, x1, x2, x3] (v :: S) (h) P) : RQ G mX4_findFirst d 55 [x0, x1, x2, x3] (.ref i :: S) h P := q_get (M := mX4_findFirst) (pc := 55) (kf := 7) dX4_findFirst_55 (show CL[3]? = some (RX4, TX4, 10) from rfl) inA4 (by decide) rfl w170 ha hv r
theorem tX4_findFirst_58 {x y : Int32} (kt : x = y → RQ G mX4_findFirst d 78 [x0, x1, x2, x3] S h P) (kf : ¬ x = y → RQ G mX4_findFirst d 61 [x0, x1, x2, x3] S h P) : RQ G mX4_findFirst d 58 [x0, x1, x2, x3] (.int y :: .int x :: S) h P := q_icmp_eq (M := mX4_findFirst) (pc := 58) dX4_findFirst_58 (by decide) kt kf
theorem tX4_findFirst_61 {k : Nat} (r : RQ G mX4_findFirst d 62 [some (.ref k), x1, x2, x3] (.ref k :: S) (h) P) : RQ G mX4_findFirst d 61 [some (.ref k), x1, x2, x3] (S) h P := q_aload_n (M := mX4_findFirst) (pc := 61) (r0 := some k) dX4_findFirst_61 rfl rfl r
theorem tX4_findFirst_62 {i : Nat} {vs : List Value} {v : Value} (ha : At h i (.inr (3, vs))) (hv : vs[1]? = some v) (r : RQ G mX4_findFirst d 65 [x0, x1, x2, x3] (v :: S) (h) P) : RQ G mX4_findFirst d 62 [x0, x1, x2, x3] (.ref i :: S) h P := q_get (M := mX4_findFirst) (pc := 62) (kf := 1) dX4_findFirst_62 (show CL[3]? = some (RX4, TX4, 10) from rfl) inA4 (by decide) rfl w155 ha hv r
theorem tX4_findFirst_65 {v : Int32} (r : RQ G mX4_findFirst d 66 [x0, x1, x2, some (.int v)] (.int v :: S) (h) P) : RQ G mX4_findFirst d 65 [x0, x1, x2, some (.int v)] (S) h P := q_iload_n (M := mX4_findFirst) (pc := 65) dX4_findFirst_65 rfl rfl r
theorem tX4_findFirst_66 {a n j : Nat} {x : Int32} {f : Nat → Int32} (ha : At h a (.inl (0, n, .inl f))) (hx : x = nI j) (hj : j < n) (hn : n < 2147483648) (r : RQ G mX4_findFirst d 67 [x0, x1, x2, x3] (.int (f j) :: S) (h) P) : RQ G mX4_findFirst d 66 [x0, x1, x2, x3] (.int x :: .ref a :: S) h P := q_iald (M := mX4_findFirst) (pc := 66) dX4_findFirst_66 ha hx hj hn r
theorem tX4_findFirst_67 {v : Int32} (r : RQ G mX4_findFirst d 68 [x0, x1, some (.int v), x3] (.int v :: S) (h) P) : RQ G mX4_findFirst d 67 [x0, x1, some (.int v), x3] (S) h P := q_iload_n (M := mX4_findFirst) (pc := 67) dX4_findFirst_67 rfl rfl r
theorem tX4_findFirst_68 {x y : Int32} (kt : x ≤ y → RQ G mX4_findFirst d 78 [x0, x1, x2, x3] S h P) (kf : ¬ x ≤ y → RQ G mX4_findFirst d 71 [x0, x1, x2, x3] S h P) : RQ G mX4_findFirst d 68 [x0, x1, x2, x3] (.int y :: .int x :: S) h P := q_icmp_le (M := mX4_findFirst) (pc := 68) dX4_findFirst_68 (by decide) kt kf
theorem tX4_findFirst_71 {k : Nat} (r : RQ G mX4_findFirst d 72 [some (.ref k), x1, x2, x3] (.ref k :: S) (h) P) : RQ G mX4_findFirst d 71 [some (.ref k), x1, x2, x3] (S) h P := q_aload_n (M := mX4_findFirst) (pc := 71) (r0 := some k) dX4_findFirst_71 rfl rfl r
theorem tX4_findFirst_72 {i : Nat} {vs : List Value} {v : Value} (ha : At h i (.inr (3, vs))) (hv : vs[1]? = some v) (r : RQ G mX4_findFirst d 75 [x0, x1, x2, x3] (v :: S) (h) P) : RQ G mX4_findFirst d 72 [x0, x1, x2, x3] (.ref i :: S) h P := q_get (M := mX4_findFirst) (pc := 72) (kf := 1) dX4_findFirst_72 (show CL[3]? = some (RX4, TX4, 10) from rfl) inA4 (by decide) rfl w155 ha hv r
theorem tX4_findFirst_75 {v : Int32} (r : RQ G mX4_findFirst d 76 [x0, x1, x2, some (.int v)] (.int v :: S) (h) P) : RQ G mX4_findFirst d 75 [x0, x1, x2, some (.int v)] (S) h P := q_iload_n (M := mX4_findFirst) (pc := 75) dX4_findFirst_75 rfl rfl r
theorem tX4_findFirst_76 {a n j : Nat} {x : Int32} {f : Nat → Int32} (ha : At h a (.inl (0, n, .inl f))) (hx : x = nI j) (hj : j < n) (hn : n < 2147483648) (r : RQ G mX4_findFirst d 77 [x0, x1, x2, x3] (.int (f j) :: S) (h) P) : RQ G mX4_findFirst d 76 [x0, x1, x2, x3] (.int x :: .ref a :: S) h P := q_iald (M := mX4_findFirst) (pc := 76) dX4_findFirst_76 ha hx hj hn r
theorem tX4_findFirst_77 {v : Int32} (ho : ok1 x1 = true := by rfl) (r : RQ G mX4_findFirst d 78 [x0, x1, some (.int v), x3] (S) (h) P) : RQ G mX4_findFirst d 77 [x0, x1, x2, x3] (.int v :: S) h P := q_istore_n (M := mX4_findFirst) (pc := 77) dX4_findFirst_77 rfl (Nat.le_of_ble_eq_true rfl) ho r
theorem tX4_findFirst_78 {v : Int32} (ho : ok1 x2 = true := by rfl) (r : RQ G mX4_findFirst d 81 [x0, x1, x2, some (.int (v + (nI 1)))] (S) (h) P) : RQ G mX4_findFirst d 78 [x0, x1, x2, some (.int v)] (S) h P := q_iinc (M := mX4_findFirst) (pc := 78) dX4_findFirst_78 rfl (congrArg (v + ·) (show Int32.ofInt (1) = (nI 1) by decide)) (Nat.le_of_ble_eq_true rfl) ho r
theorem tX4_findFirst_81 (r : RQ G mX4_findFirst d 47 [x0, x1, x2, x3] S h P) : RQ G mX4_findFirst d 81 [x0, x1, x2, x3] (S) h P := q_goto (M := mX4_findFirst) (pc := 81) dX4_findFirst_81 (by decide) r
theorem tX4_findFirst_84 {k : Nat} (r : RQ G mX4_findFirst d 85 [some (.ref k), x1, x2, x3] (.ref k :: S) (h) P) : RQ G mX4_findFirst d 84 [some (.ref k), x1, x2, x3] (S) h P := q_aload_n (M := mX4_findFirst) (pc := 84) (r0 := some k) dX4_findFirst_84 rfl rfl r
theorem tX4_findFirst_85 {v : Int32} (r : RQ G mX4_findFirst d 86 [x0, some (.int v), x2, x3] (.int v :: S) (h) P) : RQ G mX4_findFirst d 85 [x0, some (.int v), x2, x3] (S) h P := q_iload_n (M := mX4_findFirst) (pc := 85) dX4_findFirst_85 rfl rfl r
theorem tX4_findFirst_86 {v : Int32} (r : RQ G mX4_findFirst d 87 [x0, x1, some (.int v), x3] (.int v :: S) (h) P) : RQ G mX4_findFirst d 86 [x0, x1, some (.int v), x3] (S) h P := q_iload_n (M := mX4_findFirst) (pc := 86) dX4_findFirst_86 rfl rfl r
theorem tX4_findFirst_87 {x y : Int32} (r : RQ G mX4_findFirst d 88 [x0, x1, x2, x3] (.int (x - y) :: S) (h) P) : RQ G mX4_findFirst d 87 [x0, x1, x2, x3] (.int y :: .int x :: S) h P := q_isub (M := mX4_findFirst) (pc := 87) dX4_findFirst_87 r
theorem tX4_findFirst_88 {i : Nat} {vs : List Value} {v : Int32} (ha : At h i (.inr (3, vs))) (hlen : vs.length = 10) (r : RQ G mX4_findFirst d 91 [x0, x1, x2, x3] (S) (hset h i (.inr (3, vs.set 8 (.int v)))) P) : RQ G mX4_findFirst d 88 [x0, x1, x2, x3] (.int v :: .ref i :: S) h P := q_put (M := mX4_findFirst) (pc := 88) (kf := 8) (host := "") dX4_findFirst_88 (show CL[3]? = some (RX4, TX4, 10) from rfl) inA4 tyX4_ok nmX4 (by decide) rfl w174 rfl (tyX4_ok 8 (by decide)) (nfit_int v) (by rw [hlen]; decide) ha r
theorem tX4_findFirst_91 (hP : P (.inl none) h) : RQ G mX4_findFirst d 91 [x0, x1, x2, x3] ([]) h P := q_return (M := mX4_findFirst) (pc := 91) dX4_findFirst_91 rfl hP
end T
theorem dX4_divideSeats_0 : decode cX4_divideSeats 0 = .ok (.iconst 0, 1) := by decide +kernel
theorem dX4_divideSeats_1 : decode cX4_divideSeats 1 = .ok (.istore_n 1, 1) := by decide +kernel
theorem dX4_divideSeats_2 : decode cX4_divideSeats 2 = .ok (.iload_n 1, 1) := by decide +kernel
theorem dX4_divideSeats_3 : decode cX4_divideSeats 3 = .ok (.aload_n 0, 1) := by decide +kernel
theorem dX4_divideSeats_4 : decode cX4_divideSeats 4 = .ok (.getfield 37, 3) := by decide +kernel
theorem dX4_divideSeats_7 : decode cX4_divideSeats 7 = .ok (.if_icmp .ge 93, 3) := by decide +kernel
theorem dX4_divideSeats_10 : decode cX4_divideSeats 10 = .ok (.aload_n 0, 1) := by decide +kernel
theorem dX4_divideSeats_11 : decode cX4_divideSeats 11 = .ok (.getfield 33, 3) := by decide +kernel
theorem dX4_divideSeats_14 : decode cX4_divideSeats 14 = .ok (.istore_n 2, 1) := by decide +kernel
theorem dX4_divideSeats_15 : decode cX4_divideSeats 15 = .ok (.iconst 0, 1) := by decide +kernel
theorem dX4_divideSeats_16 : decode cX4_divideSeats 16 = .ok (.istore_n 3, 1) := by decide +kernel
theorem dX4_divideSeats_17 : decode cX4_divideSeats 17 = .ok (.iload_n 3, 1) := by decide +kernel
theorem dX4_divideSeats_18 : decode cX4_divideSeats 18 = .ok (.bipush 6, 2) := by decide +kernel
theorem dX4_divideSeats_20 : decode cX4_divideSeats 20 = .ok (.if_icmp .ge 64, 3) := by decide +kernel
theorem dX4_divideSeats_23 : decode cX4_divideSeats 23 = .ok (.aload_n 0, 1) := by decide +kernel
theorem dX4_divideSeats_24 : decode cX4_divideSeats 24 = .ok (.getfield 15, 3) := by decide +kernel
theorem dX4_divideSeats_27 : decode cX4_divideSeats 27 = .ok (.iload_n 3, 1) := by decide +kernel
theorem dX4_divideSeats_28 : decode cX4_divideSeats 28 = .ok (.iaload, 1) := by decide +kernel
theorem dX4_divideSeats_29 : decode cX4_divideSeats 29 = .ok (.aload_n 0, 1) := by decide +kernel
theorem dX4_divideSeats_30 : decode cX4_divideSeats 30 = .ok (.getfield 18, 3) := by decide +kernel
theorem dX4_divideSeats_33 : decode cX4_divideSeats 33 = .ok (.iload_n 2, 1) := by decide +kernel
theorem dX4_divideSeats_34 : decode cX4_divideSeats 34 = .ok (.iaload, 1) := by decide +kernel
theorem dX4_divideSeats_35 : decode cX4_divideSeats 35 = .ok (.iconst 1, 1) := by decide +kernel
theorem dX4_divideSeats_36 : decode cX4_divideSeats 36 = .ok (.iadd, 1) := by decide +kernel
theorem dX4_divideSeats_37 : decode cX4_divideSeats 37 = .ok (.imul, 1) := by decide +kernel
theorem dX4_divideSeats_38 : decode cX4_divideSeats 38 = .ok (.istore 4, 2) := by decide +kernel
theorem dX4_divideSeats_40 : decode cX4_divideSeats 40 = .ok (.aload_n 0, 1) := by decide +kernel
theorem dX4_divideSeats_41 : decode cX4_divideSeats 41 = .ok (.getfield 15, 3) := by decide +kernel
theorem dX4_divideSeats_44 : decode cX4_divideSeats 44 = .ok (.iload_n 2, 1) := by decide +kernel
theorem dX4_divideSeats_45 : decode cX4_divideSeats 45 = .ok (.iaload, 1) := by decide +kernel
theorem dX4_divideSeats_46 : decode cX4_divideSeats 46 = .ok (.aload_n 0, 1) := by decide +kernel
theorem dX4_divideSeats_47 : decode cX4_divideSeats 47 = .ok (.getfield 18, 3) := by decide +kernel
theorem dX4_divideSeats_50 : decode cX4_divideSeats 50 = .ok (.iload_n 3, 1) := by decide +kernel
theorem dX4_divideSeats_51 : decode cX4_divideSeats 51 = .ok (.iaload, 1) := by decide +kernel
theorem dX4_divideSeats_52 : decode cX4_divideSeats 52 = .ok (.iconst 1, 1) := by decide +kernel
theorem dX4_divideSeats_53 : decode cX4_divideSeats 53 = .ok (.iadd, 1) := by decide +kernel
theorem dX4_divideSeats_54 : decode cX4_divideSeats 54 = .ok (.imul, 1) := by decide +kernel
theorem dX4_divideSeats_55 : decode cX4_divideSeats 55 = .ok (.istore 5, 2) := by decide +kernel
theorem dX4_divideSeats_57 : decode cX4_divideSeats 57 = .ok (.iload 4, 2) := by decide +kernel
theorem dX4_divideSeats_59 : decode cX4_divideSeats 59 = .ok (.iload 5, 2) := by decide +kernel
theorem dX4_divideSeats_61 : decode cX4_divideSeats 61 = .ok (.if_icmp .gt 15, 3) := by decide +kernel
theorem dX4_divideSeats_64 : decode cX4_divideSeats 64 = .ok (.iload 4, 2) := by decide +kernel
theorem dX4_divideSeats_66 : decode cX4_divideSeats 66 = .ok (.iload 5, 2) := by decide +kernel
theorem dX4_divideSeats_68 : decode cX4_divideSeats 68 = .ok (.if_icmp .ne 10, 3) := by decide +kernel
theorem dX4_divideSeats_71 : decode cX4_divideSeats 71 = .ok (.iload_n 3, 1) := by decide +kernel
theorem dX4_divideSeats_72 : decode cX4_divideSeats 72 = .ok (.iload_n 2, 1) := by decide +kernel
theorem dX4_divideSeats_73 : decode cX4_divideSeats 73 = .ok (.if_icmp .ge 5, 3) := by decide +kernel
theorem dX4_divideSeats_76 : decode cX4_divideSeats 76 = .ok (.iload_n 3, 1) := by decide +kernel
theorem dX4_divideSeats_77 : decode cX4_divideSeats 77 = .ok (.istore_n 2, 1) := by decide +kernel
theorem dX4_divideSeats_78 : decode cX4_divideSeats 78 = .ok (.iinc 3 1, 3) := by decide +kernel
theorem dX4_divideSeats_81 : decode cX4_divideSeats 81 = .ok (.goto (-64), 3) := by decide +kernel
theorem dX4_divideSeats_84 : decode cX4_divideSeats 84 = .ok (.aload_n 0, 1) := by decide +kernel
theorem dX4_divideSeats_85 : decode cX4_divideSeats 85 = .ok (.getfield 18, 3) := by decide +kernel
theorem dX4_divideSeats_88 : decode cX4_divideSeats 88 = .ok (.iload_n 2, 1) := by decide +kernel
theorem dX4_divideSeats_89 : decode cX4_divideSeats 89 = .ok (.dup2, 1) := by decide +kernel
theorem dX4_divideSeats_90 : decode cX4_divideSeats 90 = .ok (.iaload, 1) := by decide +kernel
theorem dX4_divideSeats_91 : decode cX4_divideSeats 91 = .ok (.iconst 1, 1) := by decide +kernel
theorem dX4_divideSeats_92 : decode cX4_divideSeats 92 = .ok (.iadd, 1) := by decide +kernel
theorem dX4_divideSeats_93 : decode cX4_divideSeats 93 = .ok (.iastore, 1) := by decide +kernel
theorem dX4_divideSeats_94 : decode cX4_divideSeats 94 = .ok (.iinc 1 1, 3) := by decide +kernel
theorem dX4_divideSeats_97 : decode cX4_divideSeats 97 = .ok (.goto (-95), 3) := by decide +kernel
theorem dX4_divideSeats_100 : decode cX4_divideSeats 100 = .ok (.return_, 1) := by decide +kernel
section T
variable {G : GT} {d : Nat} {S : List Value} {h : AH} {P : OC → AH → Prop} {x0 x1 x2 x3 x4 x5 x6 x7 x8 x9 x10 x11 x12 x13 x14 x15 : Option Value}
theorem tX4_divideSeats_0 (r : RQ G mX4_divideSeats d 1 [x0, x1, x2, x3, x4, x5] (.int (nI 0) :: S) (h) P) : RQ G mX4_divideSeats d 0 [x0, x1, x2, x3, x4, x5] (S) h P := q_iconst (M := mX4_divideSeats) (pc := 0) dX4_divideSeats_0 (by decide) r
theorem tX4_divideSeats_1 {v : Int32} (ho : ok1 x0 = true := by rfl) (r : RQ G mX4_divideSeats d 2 [x0, some (.int v), x2, x3, x4, x5] (S) (h) P) : RQ G mX4_divideSeats d 1 [x0, x1, x2, x3, x4, x5] (.int v :: S) h P := q_istore_n (M := mX4_divideSeats) (pc := 1) dX4_divideSeats_1 rfl (Nat.le_of_ble_eq_true rfl) ho r
theorem tX4_divideSeats_2 {v : Int32} (r : RQ G mX4_divideSeats d 3 [x0, some (.int v), x2, x3, x4, x5] (.int v :: S) (h) P) : RQ G mX4_divideSeats d 2 [x0, some (.int v), x2, x3, x4, x5] (S) h P := q_iload_n (M := mX4_divideSeats) (pc := 2) dX4_divideSeats_2 rfl rfl r
theorem tX4_divideSeats_3 {k : Nat} (r : RQ G mX4_divideSeats d 4 [some (.ref k), x1, x2, x3, x4, x5] (.ref k :: S) (h) P) : RQ G mX4_divideSeats d 3 [some (.ref k), x1, x2, x3, x4, x5] (S) h P := q_aload_n (M := mX4_divideSeats) (pc := 3) (r0 := some k) dX4_divideSeats_3 rfl rfl r
theorem tX4_divideSeats_4 {i : Nat} {vs : List Value} {v : Value} (ha : At h i (.inr (3, vs))) (hv : vs[4]? = some v) (r : RQ G mX4_divideSeats d 7 [x0, x1, x2, x3, x4, x5] (v :: S) (h) P) : RQ G mX4_divideSeats d 4 [x0, x1, x2, x3, x4, x5] (.ref i :: S) h P := q_get (M := mX4_divideSeats) (pc := 4) (kf := 4) dX4_divideSeats_4 (show CL[3]? = some (RX4, TX4, 10) from rfl) inA4 (by decide) rfl w161 ha hv r
theorem tX4_divideSeats_7 {x y : Int32} (kt : y ≤ x → RQ G mX4_divideSeats d 100 [x0, x1, x2, x3, x4, x5] S h P) (kf : ¬ y ≤ x → RQ G mX4_divideSeats d 10 [x0, x1, x2, x3, x4, x5] S h P) : RQ G mX4_divideSeats d 7 [x0, x1, x2, x3, x4, x5] (.int y :: .int x :: S) h P := q_icmp_ge (M := mX4_divideSeats) (pc := 7) dX4_divideSeats_7 (by decide) kt kf
theorem tX4_divideSeats_10 {k : Nat} (r : RQ G mX4_divideSeats d 11 [some (.ref k), x1, x2, x3, x4, x5] (.ref k :: S) (h) P) : RQ G mX4_divideSeats d 10 [some (.ref k), x1, x2, x3, x4, x5] (S) h P := q_aload_n (M := mX4_divideSeats) (pc := 10) (r0 := some k) dX4_divideSeats_10 rfl rfl r
theorem tX4_divideSeats_11 {i : Nat} {vs : List Value} {v : Value} (ha : At h i (.inr (3, vs))) (hv : vs[7]? = some v) (r : RQ G mX4_divideSeats d 14 [x0, x1, x2, x3, x4, x5] (v :: S) (h) P) : RQ G mX4_divideSeats d 11 [x0, x1, x2, x3, x4, x5] (.ref i :: S) h P := q_get (M := mX4_divideSeats) (pc := 11) (kf := 7) dX4_divideSeats_11 (show CL[3]? = some (RX4, TX4, 10) from rfl) inA4 (by decide) rfl w170 ha hv r
theorem tX4_divideSeats_14 {v : Int32} (ho : ok1 x1 = true := by rfl) (r : RQ G mX4_divideSeats d 15 [x0, x1, some (.int v), x3, x4, x5] (S) (h) P) : RQ G mX4_divideSeats d 14 [x0, x1, x2, x3, x4, x5] (.int v :: S) h P := q_istore_n (M := mX4_divideSeats) (pc := 14) dX4_divideSeats_14 rfl (Nat.le_of_ble_eq_true rfl) ho r
theorem tX4_divideSeats_15 (r : RQ G mX4_divideSeats d 16 [x0, x1, x2, x3, x4, x5] (.int (nI 0) :: S) (h) P) : RQ G mX4_divideSeats d 15 [x0, x1, x2, x3, x4, x5] (S) h P := q_iconst (M := mX4_divideSeats) (pc := 15) dX4_divideSeats_15 (by decide) r
theorem tX4_divideSeats_16 {v : Int32} (ho : ok1 x2 = true := by rfl) (r : RQ G mX4_divideSeats d 17 [x0, x1, x2, some (.int v), x4, x5] (S) (h) P) : RQ G mX4_divideSeats d 16 [x0, x1, x2, x3, x4, x5] (.int v :: S) h P := q_istore_n (M := mX4_divideSeats) (pc := 16) dX4_divideSeats_16 rfl (Nat.le_of_ble_eq_true rfl) ho r
theorem tX4_divideSeats_17 {v : Int32} (r : RQ G mX4_divideSeats d 18 [x0, x1, x2, some (.int v), x4, x5] (.int v :: S) (h) P) : RQ G mX4_divideSeats d 17 [x0, x1, x2, some (.int v), x4, x5] (S) h P := q_iload_n (M := mX4_divideSeats) (pc := 17) dX4_divideSeats_17 rfl rfl r
theorem tX4_divideSeats_18 (r : RQ G mX4_divideSeats d 20 [x0, x1, x2, x3, x4, x5] (.int (nI 6) :: S) (h) P) : RQ G mX4_divideSeats d 18 [x0, x1, x2, x3, x4, x5] (S) h P := q_bipush (M := mX4_divideSeats) (pc := 18) dX4_divideSeats_18 (by decide) r
theorem tX4_divideSeats_20 {x y : Int32} (kt : y ≤ x → RQ G mX4_divideSeats d 84 [x0, x1, x2, x3, x4, x5] S h P) (kf : ¬ y ≤ x → RQ G mX4_divideSeats d 23 [x0, x1, x2, x3, x4, x5] S h P) : RQ G mX4_divideSeats d 20 [x0, x1, x2, x3, x4, x5] (.int y :: .int x :: S) h P := q_icmp_ge (M := mX4_divideSeats) (pc := 20) dX4_divideSeats_20 (by decide) kt kf
theorem tX4_divideSeats_23 {k : Nat} (r : RQ G mX4_divideSeats d 24 [some (.ref k), x1, x2, x3, x4, x5] (.ref k :: S) (h) P) : RQ G mX4_divideSeats d 23 [some (.ref k), x1, x2, x3, x4, x5] (S) h P := q_aload_n (M := mX4_divideSeats) (pc := 23) (r0 := some k) dX4_divideSeats_23 rfl rfl r
theorem tX4_divideSeats_24 {i : Nat} {vs : List Value} {v : Value} (ha : At h i (.inr (3, vs))) (hv : vs[1]? = some v) (r : RQ G mX4_divideSeats d 27 [x0, x1, x2, x3, x4, x5] (v :: S) (h) P) : RQ G mX4_divideSeats d 24 [x0, x1, x2, x3, x4, x5] (.ref i :: S) h P := q_get (M := mX4_divideSeats) (pc := 24) (kf := 1) dX4_divideSeats_24 (show CL[3]? = some (RX4, TX4, 10) from rfl) inA4 (by decide) rfl w155 ha hv r
theorem tX4_divideSeats_27 {v : Int32} (r : RQ G mX4_divideSeats d 28 [x0, x1, x2, some (.int v), x4, x5] (.int v :: S) (h) P) : RQ G mX4_divideSeats d 27 [x0, x1, x2, some (.int v), x4, x5] (S) h P := q_iload_n (M := mX4_divideSeats) (pc := 27) dX4_divideSeats_27 rfl rfl r
theorem tX4_divideSeats_28 {a n j : Nat} {x : Int32} {f : Nat → Int32} (ha : At h a (.inl (0, n, .inl f))) (hx : x = nI j) (hj : j < n) (hn : n < 2147483648) (r : RQ G mX4_divideSeats d 29 [x0, x1, x2, x3, x4, x5] (.int (f j) :: S) (h) P) : RQ G mX4_divideSeats d 28 [x0, x1, x2, x3, x4, x5] (.int x :: .ref a :: S) h P := q_iald (M := mX4_divideSeats) (pc := 28) dX4_divideSeats_28 ha hx hj hn r
theorem tX4_divideSeats_29 {k : Nat} (r : RQ G mX4_divideSeats d 30 [some (.ref k), x1, x2, x3, x4, x5] (.ref k :: S) (h) P) : RQ G mX4_divideSeats d 29 [some (.ref k), x1, x2, x3, x4, x5] (S) h P := q_aload_n (M := mX4_divideSeats) (pc := 29) (r0 := some k) dX4_divideSeats_29 rfl rfl r
theorem tX4_divideSeats_30 {i : Nat} {vs : List Value} {v : Value} (ha : At h i (.inr (3, vs))) (hv : vs[2]? = some v) (r : RQ G mX4_divideSeats d 33 [x0, x1, x2, x3, x4, x5] (v :: S) (h) P) : RQ G mX4_divideSeats d 30 [x0, x1, x2, x3, x4, x5] (.ref i :: S) h P := q_get (M := mX4_divideSeats) (pc := 30) (kf := 2) dX4_divideSeats_30 (show CL[3]? = some (RX4, TX4, 10) from rfl) inA4 (by decide) rfl w157 ha hv r
theorem tX4_divideSeats_33 {v : Int32} (r : RQ G mX4_divideSeats d 34 [x0, x1, some (.int v), x3, x4, x5] (.int v :: S) (h) P) : RQ G mX4_divideSeats d 33 [x0, x1, some (.int v), x3, x4, x5] (S) h P := q_iload_n (M := mX4_divideSeats) (pc := 33) dX4_divideSeats_33 rfl rfl r
theorem tX4_divideSeats_34 {a n j : Nat} {x : Int32} {f : Nat → Int32} (ha : At h a (.inl (0, n, .inl f))) (hx : x = nI j) (hj : j < n) (hn : n < 2147483648) (r : RQ G mX4_divideSeats d 35 [x0, x1, x2, x3, x4, x5] (.int (f j) :: S) (h) P) : RQ G mX4_divideSeats d 34 [x0, x1, x2, x3, x4, x5] (.int x :: .ref a :: S) h P := q_iald (M := mX4_divideSeats) (pc := 34) dX4_divideSeats_34 ha hx hj hn r
theorem tX4_divideSeats_35 (r : RQ G mX4_divideSeats d 36 [x0, x1, x2, x3, x4, x5] (.int (nI 1) :: S) (h) P) : RQ G mX4_divideSeats d 35 [x0, x1, x2, x3, x4, x5] (S) h P := q_iconst (M := mX4_divideSeats) (pc := 35) dX4_divideSeats_35 (by decide) r
theorem tX4_divideSeats_36 {x y : Int32} (r : RQ G mX4_divideSeats d 37 [x0, x1, x2, x3, x4, x5] (.int (x + y) :: S) (h) P) : RQ G mX4_divideSeats d 36 [x0, x1, x2, x3, x4, x5] (.int y :: .int x :: S) h P := q_iadd (M := mX4_divideSeats) (pc := 36) dX4_divideSeats_36 r
theorem tX4_divideSeats_37 {x y : Int32} (r : RQ G mX4_divideSeats d 38 [x0, x1, x2, x3, x4, x5] (.int (x * y) :: S) (h) P) : RQ G mX4_divideSeats d 37 [x0, x1, x2, x3, x4, x5] (.int y :: .int x :: S) h P := q_imul (M := mX4_divideSeats) (pc := 37) dX4_divideSeats_37 r
theorem tX4_divideSeats_38 {v : Int32} (ho : ok1 x3 = true := by rfl) (r : RQ G mX4_divideSeats d 40 [x0, x1, x2, x3, some (.int v), x5] (S) (h) P) : RQ G mX4_divideSeats d 38 [x0, x1, x2, x3, x4, x5] (.int v :: S) h P := q_istore (M := mX4_divideSeats) (pc := 38) dX4_divideSeats_38 (Nat.le_of_ble_eq_true rfl) ho r
theorem tX4_divideSeats_40 {k : Nat} (r : RQ G mX4_divideSeats d 41 [some (.ref k), x1, x2, x3, x4, x5] (.ref k :: S) (h) P) : RQ G mX4_divideSeats d 40 [some (.ref k), x1, x2, x3, x4, x5] (S) h P := q_aload_n (M := mX4_divideSeats) (pc := 40) (r0 := some k) dX4_divideSeats_40 rfl rfl r
theorem tX4_divideSeats_41 {i : Nat} {vs : List Value} {v : Value} (ha : At h i (.inr (3, vs))) (hv : vs[1]? = some v) (r : RQ G mX4_divideSeats d 44 [x0, x1, x2, x3, x4, x5] (v :: S) (h) P) : RQ G mX4_divideSeats d 41 [x0, x1, x2, x3, x4, x5] (.ref i :: S) h P := q_get (M := mX4_divideSeats) (pc := 41) (kf := 1) dX4_divideSeats_41 (show CL[3]? = some (RX4, TX4, 10) from rfl) inA4 (by decide) rfl w155 ha hv r
theorem tX4_divideSeats_44 {v : Int32} (r : RQ G mX4_divideSeats d 45 [x0, x1, some (.int v), x3, x4, x5] (.int v :: S) (h) P) : RQ G mX4_divideSeats d 44 [x0, x1, some (.int v), x3, x4, x5] (S) h P := q_iload_n (M := mX4_divideSeats) (pc := 44) dX4_divideSeats_44 rfl rfl r
theorem tX4_divideSeats_45 {a n j : Nat} {x : Int32} {f : Nat → Int32} (ha : At h a (.inl (0, n, .inl f))) (hx : x = nI j) (hj : j < n) (hn : n < 2147483648) (r : RQ G mX4_divideSeats d 46 [x0, x1, x2, x3, x4, x5] (.int (f j) :: S) (h) P) : RQ G mX4_divideSeats d 45 [x0, x1, x2, x3, x4, x5] (.int x :: .ref a :: S) h P := q_iald (M := mX4_divideSeats) (pc := 45) dX4_divideSeats_45 ha hx hj hn r
theorem tX4_divideSeats_46 {k : Nat} (r : RQ G mX4_divideSeats d 47 [some (.ref k), x1, x2, x3, x4, x5] (.ref k :: S) (h) P) : RQ G mX4_divideSeats d 46 [some (.ref k), x1, x2, x3, x4, x5] (S) h P := q_aload_n (M := mX4_divideSeats) (pc := 46) (r0 := some k) dX4_divideSeats_46 rfl rfl r
theorem tX4_divideSeats_47 {i : Nat} {vs : List Value} {v : Value} (ha : At h i (.inr (3, vs))) (hv : vs[2]? = some v) (r : RQ G mX4_divideSeats d 50 [x0, x1, x2, x3, x4, x5] (v :: S) (h) P) : RQ G mX4_divideSeats d 47 [x0, x1, x2, x3, x4, x5] (.ref i :: S) h P := q_get (M := mX4_divideSeats) (pc := 47) (kf := 2) dX4_divideSeats_47 (show CL[3]? = some (RX4, TX4, 10) from rfl) inA4 (by decide) rfl w157 ha hv r
theorem tX4_divideSeats_50 {v : Int32} (r : RQ G mX4_divideSeats d 51 [x0, x1, x2, some (.int v), x4, x5] (.int v :: S) (h) P) : RQ G mX4_divideSeats d 50 [x0, x1, x2, some (.int v), x4, x5] (S) h P := q_iload_n (M := mX4_divideSeats) (pc := 50) dX4_divideSeats_50 rfl rfl r
theorem tX4_divideSeats_51 {a n j : Nat} {x : Int32} {f : Nat → Int32} (ha : At h a (.inl (0, n, .inl f))) (hx : x = nI j) (hj : j < n) (hn : n < 2147483648) (r : RQ G mX4_divideSeats d 52 [x0, x1, x2, x3, x4, x5] (.int (f j) :: S) (h) P) : RQ G mX4_divideSeats d 51 [x0, x1, x2, x3, x4, x5] (.int x :: .ref a :: S) h P := q_iald (M := mX4_divideSeats) (pc := 51) dX4_divideSeats_51 ha hx hj hn r
theorem tX4_divideSeats_52 (r : RQ G mX4_divideSeats d 53 [x0, x1, x2, x3, x4, x5] (.int (nI 1) :: S) (h) P) : RQ G mX4_divideSeats d 52 [x0, x1, x2, x3, x4, x5] (S) h P := q_iconst (M := mX4_divideSeats) (pc := 52) dX4_divideSeats_52 (by decide) r
theorem tX4_divideSeats_53 {x y : Int32} (r : RQ G mX4_divideSeats d 54 [x0, x1, x2, x3, x4, x5] (.int (x + y) :: S) (h) P) : RQ G mX4_divideSeats d 53 [x0, x1, x2, x3, x4, x5] (.int y :: .int x :: S) h P := q_iadd (M := mX4_divideSeats) (pc := 53) dX4_divideSeats_53 r
theorem tX4_divideSeats_54 {x y : Int32} (r : RQ G mX4_divideSeats d 55 [x0, x1, x2, x3, x4, x5] (.int (x * y) :: S) (h) P) : RQ G mX4_divideSeats d 54 [x0, x1, x2, x3, x4, x5] (.int y :: .int x :: S) h P := q_imul (M := mX4_divideSeats) (pc := 54) dX4_divideSeats_54 r
theorem tX4_divideSeats_55 {v : Int32} (ho : ok1 x4 = true := by rfl) (r : RQ G mX4_divideSeats d 57 [x0, x1, x2, x3, x4, some (.int v)] (S) (h) P) : RQ G mX4_divideSeats d 55 [x0, x1, x2, x3, x4, x5] (.int v :: S) h P := q_istore (M := mX4_divideSeats) (pc := 55) dX4_divideSeats_55 (Nat.le_of_ble_eq_true rfl) ho r
theorem tX4_divideSeats_57 {v : Int32} (r : RQ G mX4_divideSeats d 59 [x0, x1, x2, x3, some (.int v), x5] (.int v :: S) (h) P) : RQ G mX4_divideSeats d 57 [x0, x1, x2, x3, some (.int v), x5] (S) h P := q_iload (M := mX4_divideSeats) (pc := 57) dX4_divideSeats_57 rfl r
theorem tX4_divideSeats_59 {v : Int32} (r : RQ G mX4_divideSeats d 61 [x0, x1, x2, x3, x4, some (.int v)] (.int v :: S) (h) P) : RQ G mX4_divideSeats d 59 [x0, x1, x2, x3, x4, some (.int v)] (S) h P := q_iload (M := mX4_divideSeats) (pc := 59) dX4_divideSeats_59 rfl r
theorem tX4_divideSeats_61 {x y : Int32} (kt : y < x → RQ G mX4_divideSeats d 76 [x0, x1, x2, x3, x4, x5] S h P) (kf : ¬ y < x → RQ G mX4_divideSeats d 64 [x0, x1, x2, x3, x4, x5] S h P) : RQ G mX4_divideSeats d 61 [x0, x1, x2, x3, x4, x5] (.int y :: .int x :: S) h P := q_icmp_gt (M := mX4_divideSeats) (pc := 61) dX4_divideSeats_61 (by decide) kt kf
theorem tX4_divideSeats_64 {v : Int32} (r : RQ G mX4_divideSeats d 66 [x0, x1, x2, x3, some (.int v), x5] (.int v :: S) (h) P) : RQ G mX4_divideSeats d 64 [x0, x1, x2, x3, some (.int v), x5] (S) h P := q_iload (M := mX4_divideSeats) (pc := 64) dX4_divideSeats_64 rfl r
theorem tX4_divideSeats_66 {v : Int32} (r : RQ G mX4_divideSeats d 68 [x0, x1, x2, x3, x4, some (.int v)] (.int v :: S) (h) P) : RQ G mX4_divideSeats d 66 [x0, x1, x2, x3, x4, some (.int v)] (S) h P := q_iload (M := mX4_divideSeats) (pc := 66) dX4_divideSeats_66 rfl r
theorem tX4_divideSeats_68 {x y : Int32} (kt : ¬ x = y → RQ G mX4_divideSeats d 78 [x0, x1, x2, x3, x4, x5] S h P) (kf : x = y → RQ G mX4_divideSeats d 71 [x0, x1, x2, x3, x4, x5] S h P) : RQ G mX4_divideSeats d 68 [x0, x1, x2, x3, x4, x5] (.int y :: .int x :: S) h P := q_icmp_ne (M := mX4_divideSeats) (pc := 68) dX4_divideSeats_68 (by decide) kt kf
theorem tX4_divideSeats_71 {v : Int32} (r : RQ G mX4_divideSeats d 72 [x0, x1, x2, some (.int v), x4, x5] (.int v :: S) (h) P) : RQ G mX4_divideSeats d 71 [x0, x1, x2, some (.int v), x4, x5] (S) h P := q_iload_n (M := mX4_divideSeats) (pc := 71) dX4_divideSeats_71 rfl rfl r
theorem tX4_divideSeats_72 {v : Int32} (r : RQ G mX4_divideSeats d 73 [x0, x1, some (.int v), x3, x4, x5] (.int v :: S) (h) P) : RQ G mX4_divideSeats d 72 [x0, x1, some (.int v), x3, x4, x5] (S) h P := q_iload_n (M := mX4_divideSeats) (pc := 72) dX4_divideSeats_72 rfl rfl r
theorem tX4_divideSeats_73 {x y : Int32} (kt : y ≤ x → RQ G mX4_divideSeats d 78 [x0, x1, x2, x3, x4, x5] S h P) (kf : ¬ y ≤ x → RQ G mX4_divideSeats d 76 [x0, x1, x2, x3, x4, x5] S h P) : RQ G mX4_divideSeats d 73 [x0, x1, x2, x3, x4, x5] (.int y :: .int x :: S) h P := q_icmp_ge (M := mX4_divideSeats) (pc := 73) dX4_divideSeats_73 (by decide) kt kf
theorem tX4_divideSeats_76 {v : Int32} (r : RQ G mX4_divideSeats d 77 [x0, x1, x2, some (.int v), x4, x5] (.int v :: S) (h) P) : RQ G mX4_divideSeats d 76 [x0, x1, x2, some (.int v), x4, x5] (S) h P := q_iload_n (M := mX4_divideSeats) (pc := 76) dX4_divideSeats_76 rfl rfl r
theorem tX4_divideSeats_77 {v : Int32} (ho : ok1 x1 = true := by rfl) (r : RQ G mX4_divideSeats d 78 [x0, x1, some (.int v), x3, x4, x5] (S) (h) P) : RQ G mX4_divideSeats d 77 [x0, x1, x2, x3, x4, x5] (.int v :: S) h P := q_istore_n (M := mX4_divideSeats) (pc := 77) dX4_divideSeats_77 rfl (Nat.le_of_ble_eq_true rfl) ho r
theorem tX4_divideSeats_78 {v : Int32} (ho : ok1 x2 = true := by rfl) (r : RQ G mX4_divideSeats d 81 [x0, x1, x2, some (.int (v + (nI 1))), x4, x5] (S) (h) P) : RQ G mX4_divideSeats d 78 [x0, x1, x2, some (.int v), x4, x5] (S) h P := q_iinc (M := mX4_divideSeats) (pc := 78) dX4_divideSeats_78 rfl (congrArg (v + ·) (show Int32.ofInt (1) = (nI 1) by decide)) (Nat.le_of_ble_eq_true rfl) ho r
theorem tX4_divideSeats_81 (r : RQ G mX4_divideSeats d 17 [x0, x1, x2, x3, x4, x5] S h P) : RQ G mX4_divideSeats d 81 [x0, x1, x2, x3, x4, x5] (S) h P := q_goto (M := mX4_divideSeats) (pc := 81) dX4_divideSeats_81 (by decide) r
theorem tX4_divideSeats_84 {k : Nat} (r : RQ G mX4_divideSeats d 85 [some (.ref k), x1, x2, x3, x4, x5] (.ref k :: S) (h) P) : RQ G mX4_divideSeats d 84 [some (.ref k), x1, x2, x3, x4, x5] (S) h P := q_aload_n (M := mX4_divideSeats) (pc := 84) (r0 := some k) dX4_divideSeats_84 rfl rfl r
theorem tX4_divideSeats_85 {i : Nat} {vs : List Value} {v : Value} (ha : At h i (.inr (3, vs))) (hv : vs[2]? = some v) (r : RQ G mX4_divideSeats d 88 [x0, x1, x2, x3, x4, x5] (v :: S) (h) P) : RQ G mX4_divideSeats d 85 [x0, x1, x2, x3, x4, x5] (.ref i :: S) h P := q_get (M := mX4_divideSeats) (pc := 85) (kf := 2) dX4_divideSeats_85 (show CL[3]? = some (RX4, TX4, 10) from rfl) inA4 (by decide) rfl w157 ha hv r
theorem tX4_divideSeats_88 {v : Int32} (r : RQ G mX4_divideSeats d 89 [x0, x1, some (.int v), x3, x4, x5] (.int v :: S) (h) P) : RQ G mX4_divideSeats d 88 [x0, x1, some (.int v), x3, x4, x5] (S) h P := q_iload_n (M := mX4_divideSeats) (pc := 88) dX4_divideSeats_88 rfl rfl r
theorem tX4_divideSeats_89 {v w : Value} (hv : ok1 (some v) = true := by rfl) (hw : ok1 (some w) = true := by rfl) (r : RQ G mX4_divideSeats d 90 [x0, x1, x2, x3, x4, x5] (v :: w :: v :: w :: S) (h) P) : RQ G mX4_divideSeats d 89 [x0, x1, x2, x3, x4, x5] (v :: w :: S) h P := q_dup2 (M := mX4_divideSeats) (pc := 89) dX4_divideSeats_89 hv hw r
theorem tX4_divideSeats_90 {a n j : Nat} {x : Int32} {f : Nat → Int32} (ha : At h a (.inl (0, n, .inl f))) (hx : x = nI j) (hj : j < n) (hn : n < 2147483648) (r : RQ G mX4_divideSeats d 91 [x0, x1, x2, x3, x4, x5] (.int (f j) :: S) (h) P) : RQ G mX4_divideSeats d 90 [x0, x1, x2, x3, x4, x5] (.int x :: .ref a :: S) h P := q_iald (M := mX4_divideSeats) (pc := 90) dX4_divideSeats_90 ha hx hj hn r
theorem tX4_divideSeats_91 (r : RQ G mX4_divideSeats d 92 [x0, x1, x2, x3, x4, x5] (.int (nI 1) :: S) (h) P) : RQ G mX4_divideSeats d 91 [x0, x1, x2, x3, x4, x5] (S) h P := q_iconst (M := mX4_divideSeats) (pc := 91) dX4_divideSeats_91 (by decide) r
theorem tX4_divideSeats_92 {x y : Int32} (r : RQ G mX4_divideSeats d 93 [x0, x1, x2, x3, x4, x5] (.int (x + y) :: S) (h) P) : RQ G mX4_divideSeats d 92 [x0, x1, x2, x3, x4, x5] (.int y :: .int x :: S) h P := q_iadd (M := mX4_divideSeats) (pc := 92) dX4_divideSeats_92 r
theorem tX4_divideSeats_93 {a n j : Nat} {x : Int32} {v : Int32} {f : Nat → Int32} (ha : At h a (.inl (0, n, .inl f))) (hx : x = nI j) (hj : j < n) (hn : n < 2147483648) (r : RQ G mX4_divideSeats d 94 [x0, x1, x2, x3, x4, x5] (S) (hset h a (.inl (0, n, .inl (upd f j v)))) P) : RQ G mX4_divideSeats d 93 [x0, x1, x2, x3, x4, x5] (.int v :: .int x :: .ref a :: S) h P := q_iast (M := mX4_divideSeats) (pc := 93) dX4_divideSeats_93 ha hx hj hn r
theorem tX4_divideSeats_94 {v : Int32} (ho : ok1 x0 = true := by rfl) (r : RQ G mX4_divideSeats d 97 [x0, some (.int (v + (nI 1))), x2, x3, x4, x5] (S) (h) P) : RQ G mX4_divideSeats d 94 [x0, some (.int v), x2, x3, x4, x5] (S) h P := q_iinc (M := mX4_divideSeats) (pc := 94) dX4_divideSeats_94 rfl (congrArg (v + ·) (show Int32.ofInt (1) = (nI 1) by decide)) (Nat.le_of_ble_eq_true rfl) ho r
theorem tX4_divideSeats_97 (r : RQ G mX4_divideSeats d 2 [x0, x1, x2, x3, x4, x5] S h P) : RQ G mX4_divideSeats d 97 [x0, x1, x2, x3, x4, x5] (S) h P := q_goto (M := mX4_divideSeats) (pc := 97) dX4_divideSeats_97 (by decide) r
theorem tX4_divideSeats_100 (hP : P (.inl none) h) : RQ G mX4_divideSeats d 100 [x0, x1, x2, x3, x4, x5] ([]) h P := q_return (M := mX4_divideSeats) (pc := 100) dX4_divideSeats_100 rfl hP
end T
theorem dX4_giveSeatsByQuota_0 : decode cX4_giveSeatsByQuota 0 = .ok (.aload_n 0, 1) := by decide +kernel
theorem dX4_giveSeatsByQuota_1 : decode cX4_giveSeatsByQuota 1 = .ok (.getfield 37, 3) := by decide +kernel
theorem dX4_giveSeatsByQuota_4 : decode cX4_giveSeatsByQuota 4 = .ok (.ifCond .ge 7, 3) := by decide +kernel
theorem dX4_giveSeatsByQuota_7 : decode cX4_giveSeatsByQuota 7 = .ok (.iconst 1, 1) := by decide +kernel
theorem dX4_giveSeatsByQuota_8 : decode cX4_giveSeatsByQuota 8 = .ok (.goto 16, 3) := by decide +kernel
theorem dX4_giveSeatsByQuota_11 : decode cX4_giveSeatsByQuota 11 = .ok (.aload_n 0, 1) := by decide +kernel
theorem dX4_giveSeatsByQuota_12 : decode cX4_giveSeatsByQuota 12 = .ok (.getfield 69, 3) := by decide +kernel
theorem dX4_giveSeatsByQuota_15 : decode cX4_giveSeatsByQuota 15 = .ok (.aload_n 0, 1) := by decide +kernel
theorem dX4_giveSeatsByQuota_16 : decode cX4_giveSeatsByQuota 16 = .ok (.getfield 37, 3) := by decide +kernel
theorem dX4_giveSeatsByQuota_19 : decode cX4_giveSeatsByQuota 19 = .ok (.iconst 1, 1) := by decide +kernel
theorem dX4_giveSeatsByQuota_20 : decode cX4_giveSeatsByQuota 20 = .ok (.iadd, 1) := by decide +kernel
theorem dX4_giveSeatsByQuota_21 : decode cX4_giveSeatsByQuota 21 = .ok (.idiv, 1) := by decide +kernel
theorem dX4_giveSeatsByQuota_22 : decode cX4_giveSeatsByQuota 22 = .ok (.iconst 1, 1) := by decide +kernel
theorem dX4_giveSeatsByQuota_23 : decode cX4_giveSeatsByQuota 23 = .ok (.iadd, 1) := by decide +kernel
theorem dX4_giveSeatsByQuota_24 : decode cX4_giveSeatsByQuota 24 = .ok (.istore_n 1, 1) := by decide +kernel
theorem dX4_giveSeatsByQuota_25 : decode cX4_giveSeatsByQuota 25 = .ok (.iload_n 1, 1) := by decide +kernel
theorem dX4_giveSeatsByQuota_26 : decode cX4_giveSeatsByQuota 26 = .ok (.iconst 1, 1) := by decide +kernel
theorem dX4_giveSeatsByQuota_27 : decode cX4_giveSeatsByQuota 27 = .ok (.if_icmp .ge 4, 3) := by decide +kernel
theorem dX4_giveSeatsByQuota_30 : decode cX4_giveSeatsByQuota 30 = .ok (.return_, 1) := by decide +kernel
theorem dX4_giveSeatsByQuota_31 : decode cX4_giveSeatsByQuota 31 = .ok (.aload_n 0, 1) := by decide +kernel
theorem dX4_giveSeatsByQuota_32 : decode cX4_giveSeatsByQuota 32 = .ok (.getfield 37, 3) := by decide +kernel
theorem dX4_giveSeatsByQuota_35 : decode cX4_giveSeatsByQuota 35 = .ok (.istore_n 2, 1) := by decide +kernel
theorem dX4_giveSeatsByQuota_36 : decode cX4_giveSeatsByQuota 36 = .ok (.iconst 0, 1) := by decide +kernel
theorem dX4_giveSeatsByQuota_37 : decode cX4_giveSeatsByQuota 37 = .ok (.istore_n 3, 1) := by decide +kernel
theorem dX4_giveSeatsByQuota_38 : decode cX4_giveSeatsByQuota 38 = .ok (.iload_n 3, 1) := by decide +kernel
theorem dX4_giveSeatsByQuota_39 : decode cX4_giveSeatsByQuota 39 = .ok (.bipush 6, 2) := by decide +kernel
theorem dX4_giveSeatsByQuota_41 : decode cX4_giveSeatsByQuota 41 = .ok (.if_icmp .ge 53, 3) := by decide +kernel
theorem dX4_giveSeatsByQuota_44 : decode cX4_giveSeatsByQuota 44 = .ok (.aload_n 0, 1) := by decide +kernel
theorem dX4_giveSeatsByQuota_45 : decode cX4_giveSeatsByQuota 45 = .ok (.getfield 18, 3) := by decide +kernel
theorem dX4_giveSeatsByQuota_48 : decode cX4_giveSeatsByQuota 48 = .ok (.iload_n 3, 1) := by decide +kernel
theorem dX4_giveSeatsByQuota_49 : decode cX4_giveSeatsByQuota 49 = .ok (.aload_n 0, 1) := by decide +kernel
theorem dX4_giveSeatsByQuota_50 : decode cX4_giveSeatsByQuota 50 = .ok (.getfield 15, 3) := by decide +kernel
theorem dX4_giveSeatsByQuota_53 : decode cX4_giveSeatsByQuota 53 = .ok (.iload_n 3, 1) := by decide +kernel
theorem dX4_giveSeatsByQuota_54 : decode cX4_giveSeatsByQuota 54 = .ok (.iaload, 1) := by decide +kernel
theorem dX4_giveSeatsByQuota_55 : decode cX4_giveSeatsByQuota 55 = .ok (.iload_n 1, 1) := by decide +kernel
theorem dX4_giveSeatsByQuota_56 : decode cX4_giveSeatsByQuota 56 = .ok (.idiv, 1) := by decide +kernel
theorem dX4_giveSeatsByQuota_57 : decode cX4_giveSeatsByQuota 57 = .ok (.iastore, 1) := by decide +kernel
theorem dX4_giveSeatsByQuota_58 : decode cX4_giveSeatsByQuota 58 = .ok (.aload_n 0, 1) := by decide +kernel
theorem dX4_giveSeatsByQuota_59 : decode cX4_giveSeatsByQuota 59 = .ok (.getfield 21, 3) := by decide +kernel
theorem dX4_giveSeatsByQuota_62 : decode cX4_giveSeatsByQuota 62 = .ok (.iload_n 3, 1) := by decide +kernel
theorem dX4_giveSeatsByQuota_63 : decode cX4_giveSeatsByQuota 63 = .ok (.aload_n 0, 1) := by decide +kernel
theorem dX4_giveSeatsByQuota_64 : decode cX4_giveSeatsByQuota 64 = .ok (.getfield 15, 3) := by decide +kernel
theorem dX4_giveSeatsByQuota_67 : decode cX4_giveSeatsByQuota 67 = .ok (.iload_n 3, 1) := by decide +kernel
theorem dX4_giveSeatsByQuota_68 : decode cX4_giveSeatsByQuota 68 = .ok (.iaload, 1) := by decide +kernel
theorem dX4_giveSeatsByQuota_69 : decode cX4_giveSeatsByQuota 69 = .ok (.aload_n 0, 1) := by decide +kernel
theorem dX4_giveSeatsByQuota_70 : decode cX4_giveSeatsByQuota 70 = .ok (.getfield 18, 3) := by decide +kernel
theorem dX4_giveSeatsByQuota_73 : decode cX4_giveSeatsByQuota 73 = .ok (.iload_n 3, 1) := by decide +kernel
theorem dX4_giveSeatsByQuota_74 : decode cX4_giveSeatsByQuota 74 = .ok (.iaload, 1) := by decide +kernel
theorem dX4_giveSeatsByQuota_75 : decode cX4_giveSeatsByQuota 75 = .ok (.iload_n 1, 1) := by decide +kernel
theorem dX4_giveSeatsByQuota_76 : decode cX4_giveSeatsByQuota 76 = .ok (.imul, 1) := by decide +kernel
theorem dX4_giveSeatsByQuota_77 : decode cX4_giveSeatsByQuota 77 = .ok (.isub, 1) := by decide +kernel
theorem dX4_giveSeatsByQuota_78 : decode cX4_giveSeatsByQuota 78 = .ok (.iastore, 1) := by decide +kernel
theorem dX4_giveSeatsByQuota_79 : decode cX4_giveSeatsByQuota 79 = .ok (.iload_n 2, 1) := by decide +kernel
theorem dX4_giveSeatsByQuota_80 : decode cX4_giveSeatsByQuota 80 = .ok (.aload_n 0, 1) := by decide +kernel
theorem dX4_giveSeatsByQuota_81 : decode cX4_giveSeatsByQuota 81 = .ok (.getfield 18, 3) := by decide +kernel
theorem dX4_giveSeatsByQuota_84 : decode cX4_giveSeatsByQuota 84 = .ok (.iload_n 3, 1) := by decide +kernel
theorem dX4_giveSeatsByQuota_85 : decode cX4_giveSeatsByQuota 85 = .ok (.iaload, 1) := by decide +kernel
theorem dX4_giveSeatsByQuota_86 : decode cX4_giveSeatsByQuota 86 = .ok (.isub, 1) := by decide +kernel
theorem dX4_giveSeatsByQuota_87 : decode cX4_giveSeatsByQuota 87 = .ok (.istore_n 2, 1) := by decide +kernel
theorem dX4_giveSeatsByQuota_88 : decode cX4_giveSeatsByQuota 88 = .ok (.iinc 3 1, 3) := by decide +kernel
theorem dX4_giveSeatsByQuota_91 : decode cX4_giveSeatsByQuota 91 = .ok (.goto (-53), 3) := by decide +kernel
theorem dX4_giveSeatsByQuota_94 : decode cX4_giveSeatsByQuota 94 = .ok (.iload_n 2, 1) := by decide +kernel
theorem dX4_giveSeatsByQuota_95 : decode cX4_giveSeatsByQuota 95 = .ok (.ifCond .le 72, 3) := by decide +kernel
theorem dX4_giveSeatsByQuota_98 : decode cX4_giveSeatsByQuota 98 = .ok (.iconst 0, 1) := by decide +kernel
theorem dX4_giveSeatsByQuota_99 : decode cX4_giveSeatsByQuota 99 = .ok (.istore_n 3, 1) := by decide +kernel
theorem dX4_giveSeatsByQuota_100 : decode cX4_giveSeatsByQuota 100 = .ok (.iconst 1, 1) := by decide +kernel
theorem dX4_giveSeatsByQuota_101 : decode cX4_giveSeatsByQuota 101 = .ok (.istore 4, 2) := by decide +kernel
theorem dX4_giveSeatsByQuota_103 : decode cX4_giveSeatsByQuota 103 = .ok (.iload 4, 2) := by decide +kernel
theorem dX4_giveSeatsByQuota_105 : decode cX4_giveSeatsByQuota 105 = .ok (.bipush 6, 2) := by decide +kernel
theorem dX4_giveSeatsByQuota_107 : decode cX4_giveSeatsByQuota 107 = .ok (.if_icmp .ge 28, 3) := by decide +kernel
theorem dX4_giveSeatsByQuota_110 : decode cX4_giveSeatsByQuota 110 = .ok (.aload_n 0, 1) := by decide +kernel
theorem dX4_giveSeatsByQuota_111 : decode cX4_giveSeatsByQuota 111 = .ok (.getfield 21, 3) := by decide +kernel
theorem dX4_giveSeatsByQuota_114 : decode cX4_giveSeatsByQuota 114 = .ok (.iload 4, 2) := by decide +kernel
theorem dX4_giveSeatsByQuota_116 : decode cX4_giveSeatsByQuota 116 = .ok (.iaload, 1) := by decide +kernel
theorem dX4_giveSeatsByQuota_117 : decode cX4_giveSeatsByQuota 117 = .ok (.aload_n 0, 1) := by decide +kernel
theorem dX4_giveSeatsByQuota_118 : decode cX4_giveSeatsByQuota 118 = .ok (.getfield 21, 3) := by decide +kernel
theorem dX4_giveSeatsByQuota_121 : decode cX4_giveSeatsByQuota 121 = .ok (.iload_n 3, 1) := by decide +kernel
theorem dX4_giveSeatsByQuota_122 : decode cX4_giveSeatsByQuota 122 = .ok (.iaload, 1) := by decide +kernel
theorem dX4_giveSeatsByQuota_123 : decode cX4_giveSeatsByQuota 123 = .ok (.if_icmp .le 6, 3) := by decide +kernel
theorem dX4_giveSeatsByQuota_126 : decode cX4_giveSeatsByQuota 126 = .ok (.iload 4, 2) := by decide +kernel
theorem dX4_giveSeatsByQuota_128 : decode cX4_giveSeatsByQuota 128 = .ok (.istore_n 3, 1) := by decide +kernel
theorem dX4_giveSeatsByQuota_129 : decode cX4_giveSeatsByQuota 129 = .ok (.iinc 4 1, 3) := by decide +kernel
theorem dX4_giveSeatsByQuota_132 : decode cX4_giveSeatsByQuota 132 = .ok (.goto (-29), 3) := by decide +kernel
theorem dX4_giveSeatsByQuota_135 : decode cX4_giveSeatsByQuota 135 = .ok (.aload_n 0, 1) := by decide +kernel
theorem dX4_giveSeatsByQuota_136 : decode cX4_giveSeatsByQuota 136 = .ok (.getfield 21, 3) := by decide +kernel
theorem dX4_giveSeatsByQuota_139 : decode cX4_giveSeatsByQuota 139 = .ok (.iload_n 3, 1) := by decide +kernel
theorem dX4_giveSeatsByQuota_140 : decode cX4_giveSeatsByQuota 140 = .ok (.iaload, 1) := by decide +kernel
theorem dX4_giveSeatsByQuota_141 : decode cX4_giveSeatsByQuota 141 = .ok (.ifCond .le 20, 3) := by decide +kernel
theorem dX4_giveSeatsByQuota_144 : decode cX4_giveSeatsByQuota 144 = .ok (.aload_n 0, 1) := by decide +kernel
theorem dX4_giveSeatsByQuota_145 : decode cX4_giveSeatsByQuota 145 = .ok (.getfield 18, 3) := by decide +kernel
theorem dX4_giveSeatsByQuota_148 : decode cX4_giveSeatsByQuota 148 = .ok (.iload_n 3, 1) := by decide +kernel
theorem dX4_giveSeatsByQuota_149 : decode cX4_giveSeatsByQuota 149 = .ok (.dup2, 1) := by decide +kernel
theorem dX4_giveSeatsByQuota_150 : decode cX4_giveSeatsByQuota 150 = .ok (.iaload, 1) := by decide +kernel
theorem dX4_giveSeatsByQuota_151 : decode cX4_giveSeatsByQuota 151 = .ok (.iconst 1, 1) := by decide +kernel
theorem dX4_giveSeatsByQuota_152 : decode cX4_giveSeatsByQuota 152 = .ok (.iadd, 1) := by decide +kernel
theorem dX4_giveSeatsByQuota_153 : decode cX4_giveSeatsByQuota 153 = .ok (.iastore, 1) := by decide +kernel
theorem dX4_giveSeatsByQuota_154 : decode cX4_giveSeatsByQuota 154 = .ok (.aload_n 0, 1) := by decide +kernel
theorem dX4_giveSeatsByQuota_155 : decode cX4_giveSeatsByQuota 155 = .ok (.getfield 21, 3) := by decide +kernel
theorem dX4_giveSeatsByQuota_158 : decode cX4_giveSeatsByQuota 158 = .ok (.iload_n 3, 1) := by decide +kernel
theorem dX4_giveSeatsByQuota_159 : decode cX4_giveSeatsByQuota 159 = .ok (.iconst 0, 1) := by decide +kernel
theorem dX4_giveSeatsByQuota_160 : decode cX4_giveSeatsByQuota 160 = .ok (.iastore, 1) := by decide +kernel
theorem dX4_giveSeatsByQuota_161 : decode cX4_giveSeatsByQuota 161 = .ok (.iinc 2 (-1), 3) := by decide +kernel
theorem dX4_giveSeatsByQuota_164 : decode cX4_giveSeatsByQuota 164 = .ok (.goto (-70), 3) := by decide +kernel
theorem dX4_giveSeatsByQuota_167 : decode cX4_giveSeatsByQuota 167 = .ok (.return_, 1) := by decide +kernel
section T
variable {G : GT} {d : Nat} {S : List Value} {h : AH} {P : OC → AH → Prop} {x0 x1 x2 x3 x4 x5 x6 x7 x8 x9 x10 x11 x12 x13 x14 x15 : Option Value}
theorem tX4_giveSeatsByQuota_0 {k : Nat} (r : RQ G mX4_giveSeatsByQuota d 1 [some (.ref k), x1, x2, x3, x4] (.ref k :: S) (h) P) : RQ G mX4_giveSeatsByQuota d 0 [some (.ref k), x1, x2, x3, x4] (S) h P := q_aload_n (M := mX4_giveSeatsByQuota) (pc := 0) (r0 := some k) dX4_giveSeatsByQuota_0 rfl rfl r
theorem tX4_giveSeatsByQuota_1 {i : Nat} {vs : List Value} {v : Value} (ha : At h i (.inr (3, vs))) (hv : vs[4]? = some v) (r : RQ G mX4_giveSeatsByQuota d 4 [x0, x1, x2, x3, x4] (v :: S) (h) P) : RQ G mX4_giveSeatsByQuota d 1 [x0, x1, x2, x3, x4] (.ref i :: S) h P := q_get (M := mX4_giveSeatsByQuota) (pc := 1) (kf := 4) dX4_giveSeatsByQuota_1 (show CL[3]? = some (RX4, TX4, 10) from rfl) inA4 (by decide) rfl w161 ha hv r
theorem tX4_giveSeatsByQuota_4 {x : Int32} (kt : 0 ≤ x → RQ G mX4_giveSeatsByQuota d 11 [x0, x1, x2, x3, x4] S h P) (kf : ¬ 0 ≤ x → RQ G mX4_giveSeatsByQuota d 7 [x0, x1, x2, x3, x4] S h P) : RQ G mX4_giveSeatsByQuota d 4 [x0, x1, x2, x3, x4] (.int x :: S) h P := q_if_ge (M := mX4_giveSeatsByQuota) (pc := 4) dX4_giveSeatsByQuota_4 (by decide) kt kf
theorem tX4_giveSeatsByQuota_7 (r : RQ G mX4_giveSeatsByQuota d 8 [x0, x1, x2, x3, x4] (.int (nI 1) :: S) (h) P) : RQ G mX4_giveSeatsByQuota d 7 [x0, x1, x2, x3, x4] (S) h P := q_iconst (M := mX4_giveSeatsByQuota) (pc := 7) dX4_giveSeatsByQuota_7 (by decide) r
theorem tX4_giveSeatsByQuota_8 (r : RQ G mX4_giveSeatsByQuota d 24 [x0, x1, x2, x3, x4] S h P) : RQ G mX4_giveSeatsByQuota d 8 [x0, x1, x2, x3, x4] (S) h P := q_goto (M := mX4_giveSeatsByQuota) (pc := 8) dX4_giveSeatsByQuota_8 (by decide) r
theorem tX4_giveSeatsByQuota_11 {k : Nat} (r : RQ G mX4_giveSeatsByQuota d 12 [some (.ref k), x1, x2, x3, x4] (.ref k :: S) (h) P) : RQ G mX4_giveSeatsByQuota d 11 [some (.ref k), x1, x2, x3, x4] (S) h P := q_aload_n (M := mX4_giveSeatsByQuota) (pc := 11) (r0 := some k) dX4_giveSeatsByQuota_11 rfl rfl r
theorem tX4_giveSeatsByQuota_12 {i : Nat} {vs : List Value} {v : Value} (ha : At h i (.inr (3, vs))) (hv : vs[6]? = some v) (r : RQ G mX4_giveSeatsByQuota d 15 [x0, x1, x2, x3, x4] (v :: S) (h) P) : RQ G mX4_giveSeatsByQuota d 12 [x0, x1, x2, x3, x4] (.ref i :: S) h P := q_get (M := mX4_giveSeatsByQuota) (pc := 12) (kf := 6) dX4_giveSeatsByQuota_12 (show CL[3]? = some (RX4, TX4, 10) from rfl) inA4 (by decide) rfl w168 ha hv r
theorem tX4_giveSeatsByQuota_15 {k : Nat} (r : RQ G mX4_giveSeatsByQuota d 16 [some (.ref k), x1, x2, x3, x4] (.ref k :: S) (h) P) : RQ G mX4_giveSeatsByQuota d 15 [some (.ref k), x1, x2, x3, x4] (S) h P := q_aload_n (M := mX4_giveSeatsByQuota) (pc := 15) (r0 := some k) dX4_giveSeatsByQuota_15 rfl rfl r
theorem tX4_giveSeatsByQuota_16 {i : Nat} {vs : List Value} {v : Value} (ha : At h i (.inr (3, vs))) (hv : vs[4]? = some v) (r : RQ G mX4_giveSeatsByQuota d 19 [x0, x1, x2, x3, x4] (v :: S) (h) P) : RQ G mX4_giveSeatsByQuota d 16 [x0, x1, x2, x3, x4] (.ref i :: S) h P := q_get (M := mX4_giveSeatsByQuota) (pc := 16) (kf := 4) dX4_giveSeatsByQuota_16 (show CL[3]? = some (RX4, TX4, 10) from rfl) inA4 (by decide) rfl w161 ha hv r
theorem tX4_giveSeatsByQuota_19 (r : RQ G mX4_giveSeatsByQuota d 20 [x0, x1, x2, x3, x4] (.int (nI 1) :: S) (h) P) : RQ G mX4_giveSeatsByQuota d 19 [x0, x1, x2, x3, x4] (S) h P := q_iconst (M := mX4_giveSeatsByQuota) (pc := 19) dX4_giveSeatsByQuota_19 (by decide) r
theorem tX4_giveSeatsByQuota_20 {x y : Int32} (r : RQ G mX4_giveSeatsByQuota d 21 [x0, x1, x2, x3, x4] (.int (x + y) :: S) (h) P) : RQ G mX4_giveSeatsByQuota d 20 [x0, x1, x2, x3, x4] (.int y :: .int x :: S) h P := q_iadd (M := mX4_giveSeatsByQuota) (pc := 20) dX4_giveSeatsByQuota_20 r
theorem tX4_giveSeatsByQuota_21 {x y : Int32} (hne : ¬ y = 0) (r : RQ G mX4_giveSeatsByQuota d 22 [x0, x1, x2, x3, x4] (.int (x / y) :: S) (h) P) : RQ G mX4_giveSeatsByQuota d 21 [x0, x1, x2, x3, x4] (.int y :: .int x :: S) h P := q_idiv (M := mX4_giveSeatsByQuota) (pc := 21) dX4_giveSeatsByQuota_21 hne r
theorem tX4_giveSeatsByQuota_22 (r : RQ G mX4_giveSeatsByQuota d 23 [x0, x1, x2, x3, x4] (.int (nI 1) :: S) (h) P) : RQ G mX4_giveSeatsByQuota d 22 [x0, x1, x2, x3, x4] (S) h P := q_iconst (M := mX4_giveSeatsByQuota) (pc := 22) dX4_giveSeatsByQuota_22 (by decide) r
theorem tX4_giveSeatsByQuota_23 {x y : Int32} (r : RQ G mX4_giveSeatsByQuota d 24 [x0, x1, x2, x3, x4] (.int (x + y) :: S) (h) P) : RQ G mX4_giveSeatsByQuota d 23 [x0, x1, x2, x3, x4] (.int y :: .int x :: S) h P := q_iadd (M := mX4_giveSeatsByQuota) (pc := 23) dX4_giveSeatsByQuota_23 r
theorem tX4_giveSeatsByQuota_24 {v : Int32} (ho : ok1 x0 = true := by rfl) (r : RQ G mX4_giveSeatsByQuota d 25 [x0, some (.int v), x2, x3, x4] (S) (h) P) : RQ G mX4_giveSeatsByQuota d 24 [x0, x1, x2, x3, x4] (.int v :: S) h P := q_istore_n (M := mX4_giveSeatsByQuota) (pc := 24) dX4_giveSeatsByQuota_24 rfl (Nat.le_of_ble_eq_true rfl) ho r
theorem tX4_giveSeatsByQuota_25 {v : Int32} (r : RQ G mX4_giveSeatsByQuota d 26 [x0, some (.int v), x2, x3, x4] (.int v :: S) (h) P) : RQ G mX4_giveSeatsByQuota d 25 [x0, some (.int v), x2, x3, x4] (S) h P := q_iload_n (M := mX4_giveSeatsByQuota) (pc := 25) dX4_giveSeatsByQuota_25 rfl rfl r
theorem tX4_giveSeatsByQuota_26 (r : RQ G mX4_giveSeatsByQuota d 27 [x0, x1, x2, x3, x4] (.int (nI 1) :: S) (h) P) : RQ G mX4_giveSeatsByQuota d 26 [x0, x1, x2, x3, x4] (S) h P := q_iconst (M := mX4_giveSeatsByQuota) (pc := 26) dX4_giveSeatsByQuota_26 (by decide) r
theorem tX4_giveSeatsByQuota_27 {x y : Int32} (kt : y ≤ x → RQ G mX4_giveSeatsByQuota d 31 [x0, x1, x2, x3, x4] S h P) (kf : ¬ y ≤ x → RQ G mX4_giveSeatsByQuota d 30 [x0, x1, x2, x3, x4] S h P) : RQ G mX4_giveSeatsByQuota d 27 [x0, x1, x2, x3, x4] (.int y :: .int x :: S) h P := q_icmp_ge (M := mX4_giveSeatsByQuota) (pc := 27) dX4_giveSeatsByQuota_27 (by decide) kt kf
theorem tX4_giveSeatsByQuota_30 (hP : P (.inl none) h) : RQ G mX4_giveSeatsByQuota d 30 [x0, x1, x2, x3, x4] ([]) h P := q_return (M := mX4_giveSeatsByQuota) (pc := 30) dX4_giveSeatsByQuota_30 rfl hP
theorem tX4_giveSeatsByQuota_31 {k : Nat} (r : RQ G mX4_giveSeatsByQuota d 32 [some (.ref k), x1, x2, x3, x4] (.ref k :: S) (h) P) : RQ G mX4_giveSeatsByQuota d 31 [some (.ref k), x1, x2, x3, x4] (S) h P := q_aload_n (M := mX4_giveSeatsByQuota) (pc := 31) (r0 := some k) dX4_giveSeatsByQuota_31 rfl rfl r
theorem tX4_giveSeatsByQuota_32 {i : Nat} {vs : List Value} {v : Value} (ha : At h i (.inr (3, vs))) (hv : vs[4]? = some v) (r : RQ G mX4_giveSeatsByQuota d 35 [x0, x1, x2, x3, x4] (v :: S) (h) P) : RQ G mX4_giveSeatsByQuota d 32 [x0, x1, x2, x3, x4] (.ref i :: S) h P := q_get (M := mX4_giveSeatsByQuota) (pc := 32) (kf := 4) dX4_giveSeatsByQuota_32 (show CL[3]? = some (RX4, TX4, 10) from rfl) inA4 (by decide) rfl w161 ha hv r
theorem tX4_giveSeatsByQuota_35 {v : Int32} (ho : ok1 x1 = true := by rfl) (r : RQ G mX4_giveSeatsByQuota d 36 [x0, x1, some (.int v), x3, x4] (S) (h) P) : RQ G mX4_giveSeatsByQuota d 35 [x0, x1, x2, x3, x4] (.int v :: S) h P := q_istore_n (M := mX4_giveSeatsByQuota) (pc := 35) dX4_giveSeatsByQuota_35 rfl (Nat.le_of_ble_eq_true rfl) ho r
theorem tX4_giveSeatsByQuota_36 (r : RQ G mX4_giveSeatsByQuota d 37 [x0, x1, x2, x3, x4] (.int (nI 0) :: S) (h) P) : RQ G mX4_giveSeatsByQuota d 36 [x0, x1, x2, x3, x4] (S) h P := q_iconst (M := mX4_giveSeatsByQuota) (pc := 36) dX4_giveSeatsByQuota_36 (by decide) r
theorem tX4_giveSeatsByQuota_37 {v : Int32} (ho : ok1 x2 = true := by rfl) (r : RQ G mX4_giveSeatsByQuota d 38 [x0, x1, x2, some (.int v), x4] (S) (h) P) : RQ G mX4_giveSeatsByQuota d 37 [x0, x1, x2, x3, x4] (.int v :: S) h P := q_istore_n (M := mX4_giveSeatsByQuota) (pc := 37) dX4_giveSeatsByQuota_37 rfl (Nat.le_of_ble_eq_true rfl) ho r
theorem tX4_giveSeatsByQuota_38 {v : Int32} (r : RQ G mX4_giveSeatsByQuota d 39 [x0, x1, x2, some (.int v), x4] (.int v :: S) (h) P) : RQ G mX4_giveSeatsByQuota d 38 [x0, x1, x2, some (.int v), x4] (S) h P := q_iload_n (M := mX4_giveSeatsByQuota) (pc := 38) dX4_giveSeatsByQuota_38 rfl rfl r
theorem tX4_giveSeatsByQuota_39 (r : RQ G mX4_giveSeatsByQuota d 41 [x0, x1, x2, x3, x4] (.int (nI 6) :: S) (h) P) : RQ G mX4_giveSeatsByQuota d 39 [x0, x1, x2, x3, x4] (S) h P := q_bipush (M := mX4_giveSeatsByQuota) (pc := 39) dX4_giveSeatsByQuota_39 (by decide) r
theorem tX4_giveSeatsByQuota_41 {x y : Int32} (kt : y ≤ x → RQ G mX4_giveSeatsByQuota d 94 [x0, x1, x2, x3, x4] S h P) (kf : ¬ y ≤ x → RQ G mX4_giveSeatsByQuota d 44 [x0, x1, x2, x3, x4] S h P) : RQ G mX4_giveSeatsByQuota d 41 [x0, x1, x2, x3, x4] (.int y :: .int x :: S) h P := q_icmp_ge (M := mX4_giveSeatsByQuota) (pc := 41) dX4_giveSeatsByQuota_41 (by decide) kt kf
theorem tX4_giveSeatsByQuota_44 {k : Nat} (r : RQ G mX4_giveSeatsByQuota d 45 [some (.ref k), x1, x2, x3, x4] (.ref k :: S) (h) P) : RQ G mX4_giveSeatsByQuota d 44 [some (.ref k), x1, x2, x3, x4] (S) h P := q_aload_n (M := mX4_giveSeatsByQuota) (pc := 44) (r0 := some k) dX4_giveSeatsByQuota_44 rfl rfl r
theorem tX4_giveSeatsByQuota_45 {i : Nat} {vs : List Value} {v : Value} (ha : At h i (.inr (3, vs))) (hv : vs[2]? = some v) (r : RQ G mX4_giveSeatsByQuota d 48 [x0, x1, x2, x3, x4] (v :: S) (h) P) : RQ G mX4_giveSeatsByQuota d 45 [x0, x1, x2, x3, x4] (.ref i :: S) h P := q_get (M := mX4_giveSeatsByQuota) (pc := 45) (kf := 2) dX4_giveSeatsByQuota_45 (show CL[3]? = some (RX4, TX4, 10) from rfl) inA4 (by decide) rfl w157 ha hv r
theorem tX4_giveSeatsByQuota_48 {v : Int32} (r : RQ G mX4_giveSeatsByQuota d 49 [x0, x1, x2, some (.int v), x4] (.int v :: S) (h) P) : RQ G mX4_giveSeatsByQuota d 48 [x0, x1, x2, some (.int v), x4] (S) h P := q_iload_n (M := mX4_giveSeatsByQuota) (pc := 48) dX4_giveSeatsByQuota_48 rfl rfl r
theorem tX4_giveSeatsByQuota_49 {k : Nat} (r : RQ G mX4_giveSeatsByQuota d 50 [some (.ref k), x1, x2, x3, x4] (.ref k :: S) (h) P) : RQ G mX4_giveSeatsByQuota d 49 [some (.ref k), x1, x2, x3, x4] (S) h P := q_aload_n (M := mX4_giveSeatsByQuota) (pc := 49) (r0 := some k) dX4_giveSeatsByQuota_49 rfl rfl r
theorem tX4_giveSeatsByQuota_50 {i : Nat} {vs : List Value} {v : Value} (ha : At h i (.inr (3, vs))) (hv : vs[1]? = some v) (r : RQ G mX4_giveSeatsByQuota d 53 [x0, x1, x2, x3, x4] (v :: S) (h) P) : RQ G mX4_giveSeatsByQuota d 50 [x0, x1, x2, x3, x4] (.ref i :: S) h P := q_get (M := mX4_giveSeatsByQuota) (pc := 50) (kf := 1) dX4_giveSeatsByQuota_50 (show CL[3]? = some (RX4, TX4, 10) from rfl) inA4 (by decide) rfl w155 ha hv r
theorem tX4_giveSeatsByQuota_53 {v : Int32} (r : RQ G mX4_giveSeatsByQuota d 54 [x0, x1, x2, some (.int v), x4] (.int v :: S) (h) P) : RQ G mX4_giveSeatsByQuota d 53 [x0, x1, x2, some (.int v), x4] (S) h P := q_iload_n (M := mX4_giveSeatsByQuota) (pc := 53) dX4_giveSeatsByQuota_53 rfl rfl r
theorem tX4_giveSeatsByQuota_54 {a n j : Nat} {x : Int32} {f : Nat → Int32} (ha : At h a (.inl (0, n, .inl f))) (hx : x = nI j) (hj : j < n) (hn : n < 2147483648) (r : RQ G mX4_giveSeatsByQuota d 55 [x0, x1, x2, x3, x4] (.int (f j) :: S) (h) P) : RQ G mX4_giveSeatsByQuota d 54 [x0, x1, x2, x3, x4] (.int x :: .ref a :: S) h P := q_iald (M := mX4_giveSeatsByQuota) (pc := 54) dX4_giveSeatsByQuota_54 ha hx hj hn r
theorem tX4_giveSeatsByQuota_55 {v : Int32} (r : RQ G mX4_giveSeatsByQuota d 56 [x0, some (.int v), x2, x3, x4] (.int v :: S) (h) P) : RQ G mX4_giveSeatsByQuota d 55 [x0, some (.int v), x2, x3, x4] (S) h P := q_iload_n (M := mX4_giveSeatsByQuota) (pc := 55) dX4_giveSeatsByQuota_55 rfl rfl r
theorem tX4_giveSeatsByQuota_56 {x y : Int32} (hne : ¬ y = 0) (r : RQ G mX4_giveSeatsByQuota d 57 [x0, x1, x2, x3, x4] (.int (x / y) :: S) (h) P) : RQ G mX4_giveSeatsByQuota d 56 [x0, x1, x2, x3, x4] (.int y :: .int x :: S) h P := q_idiv (M := mX4_giveSeatsByQuota) (pc := 56) dX4_giveSeatsByQuota_56 hne r
theorem tX4_giveSeatsByQuota_57 {a n j : Nat} {x : Int32} {v : Int32} {f : Nat → Int32} (ha : At h a (.inl (0, n, .inl f))) (hx : x = nI j) (hj : j < n) (hn : n < 2147483648) (r : RQ G mX4_giveSeatsByQuota d 58 [x0, x1, x2, x3, x4] (S) (hset h a (.inl (0, n, .inl (upd f j v)))) P) : RQ G mX4_giveSeatsByQuota d 57 [x0, x1, x2, x3, x4] (.int v :: .int x :: .ref a :: S) h P := q_iast (M := mX4_giveSeatsByQuota) (pc := 57) dX4_giveSeatsByQuota_57 ha hx hj hn r
theorem tX4_giveSeatsByQuota_58 {k : Nat} (r : RQ G mX4_giveSeatsByQuota d 59 [some (.ref k), x1, x2, x3, x4] (.ref k :: S) (h) P) : RQ G mX4_giveSeatsByQuota d 58 [some (.ref k), x1, x2, x3, x4] (S) h P := q_aload_n (M := mX4_giveSeatsByQuota) (pc := 58) (r0 := some k) dX4_giveSeatsByQuota_58 rfl rfl r
theorem tX4_giveSeatsByQuota_59 {i : Nat} {vs : List Value} {v : Value} (ha : At h i (.inr (3, vs))) (hv : vs[3]? = some v) (r : RQ G mX4_giveSeatsByQuota d 62 [x0, x1, x2, x3, x4] (v :: S) (h) P) : RQ G mX4_giveSeatsByQuota d 59 [x0, x1, x2, x3, x4] (.ref i :: S) h P := q_get (M := mX4_giveSeatsByQuota) (pc := 59) (kf := 3) dX4_giveSeatsByQuota_59 (show CL[3]? = some (RX4, TX4, 10) from rfl) inA4 (by decide) rfl w160 ha hv r
theorem tX4_giveSeatsByQuota_62 {v : Int32} (r : RQ G mX4_giveSeatsByQuota d 63 [x0, x1, x2, some (.int v), x4] (.int v :: S) (h) P) : RQ G mX4_giveSeatsByQuota d 62 [x0, x1, x2, some (.int v), x4] (S) h P := q_iload_n (M := mX4_giveSeatsByQuota) (pc := 62) dX4_giveSeatsByQuota_62 rfl rfl r
theorem tX4_giveSeatsByQuota_63 {k : Nat} (r : RQ G mX4_giveSeatsByQuota d 64 [some (.ref k), x1, x2, x3, x4] (.ref k :: S) (h) P) : RQ G mX4_giveSeatsByQuota d 63 [some (.ref k), x1, x2, x3, x4] (S) h P := q_aload_n (M := mX4_giveSeatsByQuota) (pc := 63) (r0 := some k) dX4_giveSeatsByQuota_63 rfl rfl r
theorem tX4_giveSeatsByQuota_64 {i : Nat} {vs : List Value} {v : Value} (ha : At h i (.inr (3, vs))) (hv : vs[1]? = some v) (r : RQ G mX4_giveSeatsByQuota d 67 [x0, x1, x2, x3, x4] (v :: S) (h) P) : RQ G mX4_giveSeatsByQuota d 64 [x0, x1, x2, x3, x4] (.ref i :: S) h P := q_get (M := mX4_giveSeatsByQuota) (pc := 64) (kf := 1) dX4_giveSeatsByQuota_64 (show CL[3]? = some (RX4, TX4, 10) from rfl) inA4 (by decide) rfl w155 ha hv r
theorem tX4_giveSeatsByQuota_67 {v : Int32} (r : RQ G mX4_giveSeatsByQuota d 68 [x0, x1, x2, some (.int v), x4] (.int v :: S) (h) P) : RQ G mX4_giveSeatsByQuota d 67 [x0, x1, x2, some (.int v), x4] (S) h P := q_iload_n (M := mX4_giveSeatsByQuota) (pc := 67) dX4_giveSeatsByQuota_67 rfl rfl r
theorem tX4_giveSeatsByQuota_68 {a n j : Nat} {x : Int32} {f : Nat → Int32} (ha : At h a (.inl (0, n, .inl f))) (hx : x = nI j) (hj : j < n) (hn : n < 2147483648) (r : RQ G mX4_giveSeatsByQuota d 69 [x0, x1, x2, x3, x4] (.int (f j) :: S) (h) P) : RQ G mX4_giveSeatsByQuota d 68 [x0, x1, x2, x3, x4] (.int x :: .ref a :: S) h P := q_iald (M := mX4_giveSeatsByQuota) (pc := 68) dX4_giveSeatsByQuota_68 ha hx hj hn r
theorem tX4_giveSeatsByQuota_69 {k : Nat} (r : RQ G mX4_giveSeatsByQuota d 70 [some (.ref k), x1, x2, x3, x4] (.ref k :: S) (h) P) : RQ G mX4_giveSeatsByQuota d 69 [some (.ref k), x1, x2, x3, x4] (S) h P := q_aload_n (M := mX4_giveSeatsByQuota) (pc := 69) (r0 := some k) dX4_giveSeatsByQuota_69 rfl rfl r
theorem tX4_giveSeatsByQuota_70 {i : Nat} {vs : List Value} {v : Value} (ha : At h i (.inr (3, vs))) (hv : vs[2]? = some v) (r : RQ G mX4_giveSeatsByQuota d 73 [x0, x1, x2, x3, x4] (v :: S) (h) P) : RQ G mX4_giveSeatsByQuota d 70 [x0, x1, x2, x3, x4] (.ref i :: S) h P := q_get (M := mX4_giveSeatsByQuota) (pc := 70) (kf := 2) dX4_giveSeatsByQuota_70 (show CL[3]? = some (RX4, TX4, 10) from rfl) inA4 (by decide) rfl w157 ha hv r
theorem tX4_giveSeatsByQuota_73 {v : Int32} (r : RQ G mX4_giveSeatsByQuota d 74 [x0, x1, x2, some (.int v), x4] (.int v :: S) (h) P) : RQ G mX4_giveSeatsByQuota d 73 [x0, x1, x2, some (.int v), x4] (S) h P := q_iload_n (M := mX4_giveSeatsByQuota) (pc := 73) dX4_giveSeatsByQuota_73 rfl rfl r
theorem tX4_giveSeatsByQuota_74 {a n j : Nat} {x : Int32} {f : Nat → Int32} (ha : At h a (.inl (0, n, .inl f))) (hx : x = nI j) (hj : j < n) (hn : n < 2147483648) (r : RQ G mX4_giveSeatsByQuota d 75 [x0, x1, x2, x3, x4] (.int (f j) :: S) (h) P) : RQ G mX4_giveSeatsByQuota d 74 [x0, x1, x2, x3, x4] (.int x :: .ref a :: S) h P := q_iald (M := mX4_giveSeatsByQuota) (pc := 74) dX4_giveSeatsByQuota_74 ha hx hj hn r
theorem tX4_giveSeatsByQuota_75 {v : Int32} (r : RQ G mX4_giveSeatsByQuota d 76 [x0, some (.int v), x2, x3, x4] (.int v :: S) (h) P) : RQ G mX4_giveSeatsByQuota d 75 [x0, some (.int v), x2, x3, x4] (S) h P := q_iload_n (M := mX4_giveSeatsByQuota) (pc := 75) dX4_giveSeatsByQuota_75 rfl rfl r
theorem tX4_giveSeatsByQuota_76 {x y : Int32} (r : RQ G mX4_giveSeatsByQuota d 77 [x0, x1, x2, x3, x4] (.int (x * y) :: S) (h) P) : RQ G mX4_giveSeatsByQuota d 76 [x0, x1, x2, x3, x4] (.int y :: .int x :: S) h P := q_imul (M := mX4_giveSeatsByQuota) (pc := 76) dX4_giveSeatsByQuota_76 r
theorem tX4_giveSeatsByQuota_77 {x y : Int32} (r : RQ G mX4_giveSeatsByQuota d 78 [x0, x1, x2, x3, x4] (.int (x - y) :: S) (h) P) : RQ G mX4_giveSeatsByQuota d 77 [x0, x1, x2, x3, x4] (.int y :: .int x :: S) h P := q_isub (M := mX4_giveSeatsByQuota) (pc := 77) dX4_giveSeatsByQuota_77 r
theorem tX4_giveSeatsByQuota_78 {a n j : Nat} {x : Int32} {v : Int32} {f : Nat → Int32} (ha : At h a (.inl (0, n, .inl f))) (hx : x = nI j) (hj : j < n) (hn : n < 2147483648) (r : RQ G mX4_giveSeatsByQuota d 79 [x0, x1, x2, x3, x4] (S) (hset h a (.inl (0, n, .inl (upd f j v)))) P) : RQ G mX4_giveSeatsByQuota d 78 [x0, x1, x2, x3, x4] (.int v :: .int x :: .ref a :: S) h P := q_iast (M := mX4_giveSeatsByQuota) (pc := 78) dX4_giveSeatsByQuota_78 ha hx hj hn r
theorem tX4_giveSeatsByQuota_79 {v : Int32} (r : RQ G mX4_giveSeatsByQuota d 80 [x0, x1, some (.int v), x3, x4] (.int v :: S) (h) P) : RQ G mX4_giveSeatsByQuota d 79 [x0, x1, some (.int v), x3, x4] (S) h P := q_iload_n (M := mX4_giveSeatsByQuota) (pc := 79) dX4_giveSeatsByQuota_79 rfl rfl r
theorem tX4_giveSeatsByQuota_80 {k : Nat} (r : RQ G mX4_giveSeatsByQuota d 81 [some (.ref k), x1, x2, x3, x4] (.ref k :: S) (h) P) : RQ G mX4_giveSeatsByQuota d 80 [some (.ref k), x1, x2, x3, x4] (S) h P := q_aload_n (M := mX4_giveSeatsByQuota) (pc := 80) (r0 := some k) dX4_giveSeatsByQuota_80 rfl rfl r
theorem tX4_giveSeatsByQuota_81 {i : Nat} {vs : List Value} {v : Value} (ha : At h i (.inr (3, vs))) (hv : vs[2]? = some v) (r : RQ G mX4_giveSeatsByQuota d 84 [x0, x1, x2, x3, x4] (v :: S) (h) P) : RQ G mX4_giveSeatsByQuota d 81 [x0, x1, x2, x3, x4] (.ref i :: S) h P := q_get (M := mX4_giveSeatsByQuota) (pc := 81) (kf := 2) dX4_giveSeatsByQuota_81 (show CL[3]? = some (RX4, TX4, 10) from rfl) inA4 (by decide) rfl w157 ha hv r
theorem tX4_giveSeatsByQuota_84 {v : Int32} (r : RQ G mX4_giveSeatsByQuota d 85 [x0, x1, x2, some (.int v), x4] (.int v :: S) (h) P) : RQ G mX4_giveSeatsByQuota d 84 [x0, x1, x2, some (.int v), x4] (S) h P := q_iload_n (M := mX4_giveSeatsByQuota) (pc := 84) dX4_giveSeatsByQuota_84 rfl rfl r
theorem tX4_giveSeatsByQuota_85 {a n j : Nat} {x : Int32} {f : Nat → Int32} (ha : At h a (.inl (0, n, .inl f))) (hx : x = nI j) (hj : j < n) (hn : n < 2147483648) (r : RQ G mX4_giveSeatsByQuota d 86 [x0, x1, x2, x3, x4] (.int (f j) :: S) (h) P) : RQ G mX4_giveSeatsByQuota d 85 [x0, x1, x2, x3, x4] (.int x :: .ref a :: S) h P := q_iald (M := mX4_giveSeatsByQuota) (pc := 85) dX4_giveSeatsByQuota_85 ha hx hj hn r
theorem tX4_giveSeatsByQuota_86 {x y : Int32} (r : RQ G mX4_giveSeatsByQuota d 87 [x0, x1, x2, x3, x4] (.int (x - y) :: S) (h) P) : RQ G mX4_giveSeatsByQuota d 86 [x0, x1, x2, x3, x4] (.int y :: .int x :: S) h P := q_isub (M := mX4_giveSeatsByQuota) (pc := 86) dX4_giveSeatsByQuota_86 r
theorem tX4_giveSeatsByQuota_87 {v : Int32} (ho : ok1 x1 = true := by rfl) (r : RQ G mX4_giveSeatsByQuota d 88 [x0, x1, some (.int v), x3, x4] (S) (h) P) : RQ G mX4_giveSeatsByQuota d 87 [x0, x1, x2, x3, x4] (.int v :: S) h P := q_istore_n (M := mX4_giveSeatsByQuota) (pc := 87) dX4_giveSeatsByQuota_87 rfl (Nat.le_of_ble_eq_true rfl) ho r
theorem tX4_giveSeatsByQuota_88 {v : Int32} (ho : ok1 x2 = true := by rfl) (r : RQ G mX4_giveSeatsByQuota d 91 [x0, x1, x2, some (.int (v + (nI 1))), x4] (S) (h) P) : RQ G mX4_giveSeatsByQuota d 88 [x0, x1, x2, some (.int v), x4] (S) h P := q_iinc (M := mX4_giveSeatsByQuota) (pc := 88) dX4_giveSeatsByQuota_88 rfl (congrArg (v + ·) (show Int32.ofInt (1) = (nI 1) by decide)) (Nat.le_of_ble_eq_true rfl) ho r
theorem tX4_giveSeatsByQuota_91 (r : RQ G mX4_giveSeatsByQuota d 38 [x0, x1, x2, x3, x4] S h P) : RQ G mX4_giveSeatsByQuota d 91 [x0, x1, x2, x3, x4] (S) h P := q_goto (M := mX4_giveSeatsByQuota) (pc := 91) dX4_giveSeatsByQuota_91 (by decide) r
theorem tX4_giveSeatsByQuota_94 {v : Int32} (r : RQ G mX4_giveSeatsByQuota d 95 [x0, x1, some (.int v), x3, x4] (.int v :: S) (h) P) : RQ G mX4_giveSeatsByQuota d 94 [x0, x1, some (.int v), x3, x4] (S) h P := q_iload_n (M := mX4_giveSeatsByQuota) (pc := 94) dX4_giveSeatsByQuota_94 rfl rfl r
theorem tX4_giveSeatsByQuota_95 {x : Int32} (kt : x ≤ 0 → RQ G mX4_giveSeatsByQuota d 167 [x0, x1, x2, x3, x4] S h P) (kf : ¬ x ≤ 0 → RQ G mX4_giveSeatsByQuota d 98 [x0, x1, x2, x3, x4] S h P) : RQ G mX4_giveSeatsByQuota d 95 [x0, x1, x2, x3, x4] (.int x :: S) h P := q_if_le (M := mX4_giveSeatsByQuota) (pc := 95) dX4_giveSeatsByQuota_95 (by decide) kt kf
theorem tX4_giveSeatsByQuota_98 (r : RQ G mX4_giveSeatsByQuota d 99 [x0, x1, x2, x3, x4] (.int (nI 0) :: S) (h) P) : RQ G mX4_giveSeatsByQuota d 98 [x0, x1, x2, x3, x4] (S) h P := q_iconst (M := mX4_giveSeatsByQuota) (pc := 98) dX4_giveSeatsByQuota_98 (by decide) r
theorem tX4_giveSeatsByQuota_99 {v : Int32} (ho : ok1 x2 = true := by rfl) (r : RQ G mX4_giveSeatsByQuota d 100 [x0, x1, x2, some (.int v), x4] (S) (h) P) : RQ G mX4_giveSeatsByQuota d 99 [x0, x1, x2, x3, x4] (.int v :: S) h P := q_istore_n (M := mX4_giveSeatsByQuota) (pc := 99) dX4_giveSeatsByQuota_99 rfl (Nat.le_of_ble_eq_true rfl) ho r
theorem tX4_giveSeatsByQuota_100 (r : RQ G mX4_giveSeatsByQuota d 101 [x0, x1, x2, x3, x4] (.int (nI 1) :: S) (h) P) : RQ G mX4_giveSeatsByQuota d 100 [x0, x1, x2, x3, x4] (S) h P := q_iconst (M := mX4_giveSeatsByQuota) (pc := 100) dX4_giveSeatsByQuota_100 (by decide) r
theorem tX4_giveSeatsByQuota_101 {v : Int32} (ho : ok1 x3 = true := by rfl) (r : RQ G mX4_giveSeatsByQuota d 103 [x0, x1, x2, x3, some (.int v)] (S) (h) P) : RQ G mX4_giveSeatsByQuota d 101 [x0, x1, x2, x3, x4] (.int v :: S) h P := q_istore (M := mX4_giveSeatsByQuota) (pc := 101) dX4_giveSeatsByQuota_101 (Nat.le_of_ble_eq_true rfl) ho r
theorem tX4_giveSeatsByQuota_103 {v : Int32} (r : RQ G mX4_giveSeatsByQuota d 105 [x0, x1, x2, x3, some (.int v)] (.int v :: S) (h) P) : RQ G mX4_giveSeatsByQuota d 103 [x0, x1, x2, x3, some (.int v)] (S) h P := q_iload (M := mX4_giveSeatsByQuota) (pc := 103) dX4_giveSeatsByQuota_103 rfl r
theorem tX4_giveSeatsByQuota_105 (r : RQ G mX4_giveSeatsByQuota d 107 [x0, x1, x2, x3, x4] (.int (nI 6) :: S) (h) P) : RQ G mX4_giveSeatsByQuota d 105 [x0, x1, x2, x3, x4] (S) h P := q_bipush (M := mX4_giveSeatsByQuota) (pc := 105) dX4_giveSeatsByQuota_105 (by decide) r
theorem tX4_giveSeatsByQuota_107 {x y : Int32} (kt : y ≤ x → RQ G mX4_giveSeatsByQuota d 135 [x0, x1, x2, x3, x4] S h P) (kf : ¬ y ≤ x → RQ G mX4_giveSeatsByQuota d 110 [x0, x1, x2, x3, x4] S h P) : RQ G mX4_giveSeatsByQuota d 107 [x0, x1, x2, x3, x4] (.int y :: .int x :: S) h P := q_icmp_ge (M := mX4_giveSeatsByQuota) (pc := 107) dX4_giveSeatsByQuota_107 (by decide) kt kf
theorem tX4_giveSeatsByQuota_110 {k : Nat} (r : RQ G mX4_giveSeatsByQuota d 111 [some (.ref k), x1, x2, x3, x4] (.ref k :: S) (h) P) : RQ G mX4_giveSeatsByQuota d 110 [some (.ref k), x1, x2, x3, x4] (S) h P := q_aload_n (M := mX4_giveSeatsByQuota) (pc := 110) (r0 := some k) dX4_giveSeatsByQuota_110 rfl rfl r
theorem tX4_giveSeatsByQuota_111 {i : Nat} {vs : List Value} {v : Value} (ha : At h i (.inr (3, vs))) (hv : vs[3]? = some v) (r : RQ G mX4_giveSeatsByQuota d 114 [x0, x1, x2, x3, x4] (v :: S) (h) P) : RQ G mX4_giveSeatsByQuota d 111 [x0, x1, x2, x3, x4] (.ref i :: S) h P := q_get (M := mX4_giveSeatsByQuota) (pc := 111) (kf := 3) dX4_giveSeatsByQuota_111 (show CL[3]? = some (RX4, TX4, 10) from rfl) inA4 (by decide) rfl w160 ha hv r
theorem tX4_giveSeatsByQuota_114 {v : Int32} (r : RQ G mX4_giveSeatsByQuota d 116 [x0, x1, x2, x3, some (.int v)] (.int v :: S) (h) P) : RQ G mX4_giveSeatsByQuota d 114 [x0, x1, x2, x3, some (.int v)] (S) h P := q_iload (M := mX4_giveSeatsByQuota) (pc := 114) dX4_giveSeatsByQuota_114 rfl r
theorem tX4_giveSeatsByQuota_116 {a n j : Nat} {x : Int32} {f : Nat → Int32} (ha : At h a (.inl (0, n, .inl f))) (hx : x = nI j) (hj : j < n) (hn : n < 2147483648) (r : RQ G mX4_giveSeatsByQuota d 117 [x0, x1, x2, x3, x4] (.int (f j) :: S) (h) P) : RQ G mX4_giveSeatsByQuota d 116 [x0, x1, x2, x3, x4] (.int x :: .ref a :: S) h P := q_iald (M := mX4_giveSeatsByQuota) (pc := 116) dX4_giveSeatsByQuota_116 ha hx hj hn r
theorem tX4_giveSeatsByQuota_117 {k : Nat} (r : RQ G mX4_giveSeatsByQuota d 118 [some (.ref k), x1, x2, x3, x4] (.ref k :: S) (h) P) : RQ G mX4_giveSeatsByQuota d 117 [some (.ref k), x1, x2, x3, x4] (S) h P := q_aload_n (M := mX4_giveSeatsByQuota) (pc := 117) (r0 := some k) dX4_giveSeatsByQuota_117 rfl rfl r
theorem tX4_giveSeatsByQuota_118 {i : Nat} {vs : List Value} {v : Value} (ha : At h i (.inr (3, vs))) (hv : vs[3]? = some v) (r : RQ G mX4_giveSeatsByQuota d 121 [x0, x1, x2, x3, x4] (v :: S) (h) P) : RQ G mX4_giveSeatsByQuota d 118 [x0, x1, x2, x3, x4] (.ref i :: S) h P := q_get (M := mX4_giveSeatsByQuota) (pc := 118) (kf := 3) dX4_giveSeatsByQuota_118 (show CL[3]? = some (RX4, TX4, 10) from rfl) inA4 (by decide) rfl w160 ha hv r
theorem tX4_giveSeatsByQuota_121 {v : Int32} (r : RQ G mX4_giveSeatsByQuota d 122 [x0, x1, x2, some (.int v), x4] (.int v :: S) (h) P) : RQ G mX4_giveSeatsByQuota d 121 [x0, x1, x2, some (.int v), x4] (S) h P := q_iload_n (M := mX4_giveSeatsByQuota) (pc := 121) dX4_giveSeatsByQuota_121 rfl rfl r
theorem tX4_giveSeatsByQuota_122 {a n j : Nat} {x : Int32} {f : Nat → Int32} (ha : At h a (.inl (0, n, .inl f))) (hx : x = nI j) (hj : j < n) (hn : n < 2147483648) (r : RQ G mX4_giveSeatsByQuota d 123 [x0, x1, x2, x3, x4] (.int (f j) :: S) (h) P) : RQ G mX4_giveSeatsByQuota d 122 [x0, x1, x2, x3, x4] (.int x :: .ref a :: S) h P := q_iald (M := mX4_giveSeatsByQuota) (pc := 122) dX4_giveSeatsByQuota_122 ha hx hj hn r
theorem tX4_giveSeatsByQuota_123 {x y : Int32} (kt : x ≤ y → RQ G mX4_giveSeatsByQuota d 129 [x0, x1, x2, x3, x4] S h P) (kf : ¬ x ≤ y → RQ G mX4_giveSeatsByQuota d 126 [x0, x1, x2, x3, x4] S h P) : RQ G mX4_giveSeatsByQuota d 123 [x0, x1, x2, x3, x4] (.int y :: .int x :: S) h P := q_icmp_le (M := mX4_giveSeatsByQuota) (pc := 123) dX4_giveSeatsByQuota_123 (by decide) kt kf
theorem tX4_giveSeatsByQuota_126 {v : Int32} (r : RQ G mX4_giveSeatsByQuota d 128 [x0, x1, x2, x3, some (.int v)] (.int v :: S) (h) P) : RQ G mX4_giveSeatsByQuota d 126 [x0, x1, x2, x3, some (.int v)] (S) h P := q_iload (M := mX4_giveSeatsByQuota) (pc := 126) dX4_giveSeatsByQuota_126 rfl r
theorem tX4_giveSeatsByQuota_128 {v : Int32} (ho : ok1 x2 = true := by rfl) (r : RQ G mX4_giveSeatsByQuota d 129 [x0, x1, x2, some (.int v), x4] (S) (h) P) : RQ G mX4_giveSeatsByQuota d 128 [x0, x1, x2, x3, x4] (.int v :: S) h P := q_istore_n (M := mX4_giveSeatsByQuota) (pc := 128) dX4_giveSeatsByQuota_128 rfl (Nat.le_of_ble_eq_true rfl) ho r
theorem tX4_giveSeatsByQuota_129 {v : Int32} (ho : ok1 x3 = true := by rfl) (r : RQ G mX4_giveSeatsByQuota d 132 [x0, x1, x2, x3, some (.int (v + (nI 1)))] (S) (h) P) : RQ G mX4_giveSeatsByQuota d 129 [x0, x1, x2, x3, some (.int v)] (S) h P := q_iinc (M := mX4_giveSeatsByQuota) (pc := 129) dX4_giveSeatsByQuota_129 rfl (congrArg (v + ·) (show Int32.ofInt (1) = (nI 1) by decide)) (Nat.le_of_ble_eq_true rfl) ho r
theorem tX4_giveSeatsByQuota_132 (r : RQ G mX4_giveSeatsByQuota d 103 [x0, x1, x2, x3, x4] S h P) : RQ G mX4_giveSeatsByQuota d 132 [x0, x1, x2, x3, x4] (S) h P := q_goto (M := mX4_giveSeatsByQuota) (pc := 132) dX4_giveSeatsByQuota_132 (by decide) r
theorem tX4_giveSeatsByQuota_135 {k : Nat} (r : RQ G mX4_giveSeatsByQuota d 136 [some (.ref k), x1, x2, x3, x4] (.ref k :: S) (h) P) : RQ G mX4_giveSeatsByQuota d 135 [some (.ref k), x1, x2, x3, x4] (S) h P := q_aload_n (M := mX4_giveSeatsByQuota) (pc := 135) (r0 := some k) dX4_giveSeatsByQuota_135 rfl rfl r
theorem tX4_giveSeatsByQuota_136 {i : Nat} {vs : List Value} {v : Value} (ha : At h i (.inr (3, vs))) (hv : vs[3]? = some v) (r : RQ G mX4_giveSeatsByQuota d 139 [x0, x1, x2, x3, x4] (v :: S) (h) P) : RQ G mX4_giveSeatsByQuota d 136 [x0, x1, x2, x3, x4] (.ref i :: S) h P := q_get (M := mX4_giveSeatsByQuota) (pc := 136) (kf := 3) dX4_giveSeatsByQuota_136 (show CL[3]? = some (RX4, TX4, 10) from rfl) inA4 (by decide) rfl w160 ha hv r
theorem tX4_giveSeatsByQuota_139 {v : Int32} (r : RQ G mX4_giveSeatsByQuota d 140 [x0, x1, x2, some (.int v), x4] (.int v :: S) (h) P) : RQ G mX4_giveSeatsByQuota d 139 [x0, x1, x2, some (.int v), x4] (S) h P := q_iload_n (M := mX4_giveSeatsByQuota) (pc := 139) dX4_giveSeatsByQuota_139 rfl rfl r
theorem tX4_giveSeatsByQuota_140 {a n j : Nat} {x : Int32} {f : Nat → Int32} (ha : At h a (.inl (0, n, .inl f))) (hx : x = nI j) (hj : j < n) (hn : n < 2147483648) (r : RQ G mX4_giveSeatsByQuota d 141 [x0, x1, x2, x3, x4] (.int (f j) :: S) (h) P) : RQ G mX4_giveSeatsByQuota d 140 [x0, x1, x2, x3, x4] (.int x :: .ref a :: S) h P := q_iald (M := mX4_giveSeatsByQuota) (pc := 140) dX4_giveSeatsByQuota_140 ha hx hj hn r
theorem tX4_giveSeatsByQuota_141 {x : Int32} (kt : x ≤ 0 → RQ G mX4_giveSeatsByQuota d 161 [x0, x1, x2, x3, x4] S h P) (kf : ¬ x ≤ 0 → RQ G mX4_giveSeatsByQuota d 144 [x0, x1, x2, x3, x4] S h P) : RQ G mX4_giveSeatsByQuota d 141 [x0, x1, x2, x3, x4] (.int x :: S) h P := q_if_le (M := mX4_giveSeatsByQuota) (pc := 141) dX4_giveSeatsByQuota_141 (by decide) kt kf
theorem tX4_giveSeatsByQuota_144 {k : Nat} (r : RQ G mX4_giveSeatsByQuota d 145 [some (.ref k), x1, x2, x3, x4] (.ref k :: S) (h) P) : RQ G mX4_giveSeatsByQuota d 144 [some (.ref k), x1, x2, x3, x4] (S) h P := q_aload_n (M := mX4_giveSeatsByQuota) (pc := 144) (r0 := some k) dX4_giveSeatsByQuota_144 rfl rfl r
theorem tX4_giveSeatsByQuota_145 {i : Nat} {vs : List Value} {v : Value} (ha : At h i (.inr (3, vs))) (hv : vs[2]? = some v) (r : RQ G mX4_giveSeatsByQuota d 148 [x0, x1, x2, x3, x4] (v :: S) (h) P) : RQ G mX4_giveSeatsByQuota d 145 [x0, x1, x2, x3, x4] (.ref i :: S) h P := q_get (M := mX4_giveSeatsByQuota) (pc := 145) (kf := 2) dX4_giveSeatsByQuota_145 (show CL[3]? = some (RX4, TX4, 10) from rfl) inA4 (by decide) rfl w157 ha hv r
theorem tX4_giveSeatsByQuota_148 {v : Int32} (r : RQ G mX4_giveSeatsByQuota d 149 [x0, x1, x2, some (.int v), x4] (.int v :: S) (h) P) : RQ G mX4_giveSeatsByQuota d 148 [x0, x1, x2, some (.int v), x4] (S) h P := q_iload_n (M := mX4_giveSeatsByQuota) (pc := 148) dX4_giveSeatsByQuota_148 rfl rfl r
theorem tX4_giveSeatsByQuota_149 {v w : Value} (hv : ok1 (some v) = true := by rfl) (hw : ok1 (some w) = true := by rfl) (r : RQ G mX4_giveSeatsByQuota d 150 [x0, x1, x2, x3, x4] (v :: w :: v :: w :: S) (h) P) : RQ G mX4_giveSeatsByQuota d 149 [x0, x1, x2, x3, x4] (v :: w :: S) h P := q_dup2 (M := mX4_giveSeatsByQuota) (pc := 149) dX4_giveSeatsByQuota_149 hv hw r
theorem tX4_giveSeatsByQuota_150 {a n j : Nat} {x : Int32} {f : Nat → Int32} (ha : At h a (.inl (0, n, .inl f))) (hx : x = nI j) (hj : j < n) (hn : n < 2147483648) (r : RQ G mX4_giveSeatsByQuota d 151 [x0, x1, x2, x3, x4] (.int (f j) :: S) (h) P) : RQ G mX4_giveSeatsByQuota d 150 [x0, x1, x2, x3, x4] (.int x :: .ref a :: S) h P := q_iald (M := mX4_giveSeatsByQuota) (pc := 150) dX4_giveSeatsByQuota_150 ha hx hj hn r
theorem tX4_giveSeatsByQuota_151 (r : RQ G mX4_giveSeatsByQuota d 152 [x0, x1, x2, x3, x4] (.int (nI 1) :: S) (h) P) : RQ G mX4_giveSeatsByQuota d 151 [x0, x1, x2, x3, x4] (S) h P := q_iconst (M := mX4_giveSeatsByQuota) (pc := 151) dX4_giveSeatsByQuota_151 (by decide) r
theorem tX4_giveSeatsByQuota_152 {x y : Int32} (r : RQ G mX4_giveSeatsByQuota d 153 [x0, x1, x2, x3, x4] (.int (x + y) :: S) (h) P) : RQ G mX4_giveSeatsByQuota d 152 [x0, x1, x2, x3, x4] (.int y :: .int x :: S) h P := q_iadd (M := mX4_giveSeatsByQuota) (pc := 152) dX4_giveSeatsByQuota_152 r
theorem tX4_giveSeatsByQuota_153 {a n j : Nat} {x : Int32} {v : Int32} {f : Nat → Int32} (ha : At h a (.inl (0, n, .inl f))) (hx : x = nI j) (hj : j < n) (hn : n < 2147483648) (r : RQ G mX4_giveSeatsByQuota d 154 [x0, x1, x2, x3, x4] (S) (hset h a (.inl (0, n, .inl (upd f j v)))) P) : RQ G mX4_giveSeatsByQuota d 153 [x0, x1, x2, x3, x4] (.int v :: .int x :: .ref a :: S) h P := q_iast (M := mX4_giveSeatsByQuota) (pc := 153) dX4_giveSeatsByQuota_153 ha hx hj hn r
theorem tX4_giveSeatsByQuota_154 {k : Nat} (r : RQ G mX4_giveSeatsByQuota d 155 [some (.ref k), x1, x2, x3, x4] (.ref k :: S) (h) P) : RQ G mX4_giveSeatsByQuota d 154 [some (.ref k), x1, x2, x3, x4] (S) h P := q_aload_n (M := mX4_giveSeatsByQuota) (pc := 154) (r0 := some k) dX4_giveSeatsByQuota_154 rfl rfl r
theorem tX4_giveSeatsByQuota_155 {i : Nat} {vs : List Value} {v : Value} (ha : At h i (.inr (3, vs))) (hv : vs[3]? = some v) (r : RQ G mX4_giveSeatsByQuota d 158 [x0, x1, x2, x3, x4] (v :: S) (h) P) : RQ G mX4_giveSeatsByQuota d 155 [x0, x1, x2, x3, x4] (.ref i :: S) h P := q_get (M := mX4_giveSeatsByQuota) (pc := 155) (kf := 3) dX4_giveSeatsByQuota_155 (show CL[3]? = some (RX4, TX4, 10) from rfl) inA4 (by decide) rfl w160 ha hv r
theorem tX4_giveSeatsByQuota_158 {v : Int32} (r : RQ G mX4_giveSeatsByQuota d 159 [x0, x1, x2, some (.int v), x4] (.int v :: S) (h) P) : RQ G mX4_giveSeatsByQuota d 158 [x0, x1, x2, some (.int v), x4] (S) h P := q_iload_n (M := mX4_giveSeatsByQuota) (pc := 158) dX4_giveSeatsByQuota_158 rfl rfl r
theorem tX4_giveSeatsByQuota_159 (r : RQ G mX4_giveSeatsByQuota d 160 [x0, x1, x2, x3, x4] (.int (nI 0) :: S) (h) P) : RQ G mX4_giveSeatsByQuota d 159 [x0, x1, x2, x3, x4] (S) h P := q_iconst (M := mX4_giveSeatsByQuota) (pc := 159) dX4_giveSeatsByQuota_159 (by decide) r
theorem tX4_giveSeatsByQuota_160 {a n j : Nat} {x : Int32} {v : Int32} {f : Nat → Int32} (ha : At h a (.inl (0, n, .inl f))) (hx : x = nI j) (hj : j < n) (hn : n < 2147483648) (r : RQ G mX4_giveSeatsByQuota d 161 [x0, x1, x2, x3, x4] (S) (hset h a (.inl (0, n, .inl (upd f j v)))) P) : RQ G mX4_giveSeatsByQuota d 160 [x0, x1, x2, x3, x4] (.int v :: .int x :: .ref a :: S) h P := q_iast (M := mX4_giveSeatsByQuota) (pc := 160) dX4_giveSeatsByQuota_160 ha hx hj hn r
theorem tX4_giveSeatsByQuota_161 {v : Int32} (ho : ok1 x1 = true := by rfl) (r : RQ G mX4_giveSeatsByQuota d 164 [x0, x1, some (.int (v + (-1))), x3, x4] (S) (h) P) : RQ G mX4_giveSeatsByQuota d 161 [x0, x1, some (.int v), x3, x4] (S) h P := q_iinc (M := mX4_giveSeatsByQuota) (pc := 161) dX4_giveSeatsByQuota_161 rfl (congrArg (v + ·) (show Int32.ofInt (-1) = (-1) by decide)) (Nat.le_of_ble_eq_true rfl) ho r
theorem tX4_giveSeatsByQuota_164 (r : RQ G mX4_giveSeatsByQuota d 94 [x0, x1, x2, x3, x4] S h P) : RQ G mX4_giveSeatsByQuota d 164 [x0, x1, x2, x3, x4] (S) h P := q_goto (M := mX4_giveSeatsByQuota) (pc := 164) dX4_giveSeatsByQuota_164 (by decide) r
theorem tX4_giveSeatsByQuota_167 (hP : P (.inl none) h) : RQ G mX4_giveSeatsByQuota d 167 [x0, x1, x2, x3, x4] ([]) h P := q_return (M := mX4_giveSeatsByQuota) (pc := 167) dX4_giveSeatsByQuota_167 rfl hP
end T
