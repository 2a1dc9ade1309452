theorem dX8_init_0 : decode cX8_init 0 = .ok (.aload_n 0, 1) := by decide +kernel
theorem dX8_init_1 : decode cX8_init 1 = .ok (.invokespecial 3, 3) := by decide +kernel
theorem dX8_init_4 : decode cX8_init 4 = .ok (.aload_n 0, 1) := by decide +kernel
theorem dX8_init_5 : decode cX8_init 5 = .ok (.sipush 1600, 3) := by decide +kernel
theorem dX8_init_8 : decode cX8_init 8 = .ok (.newarray .byte, 2) := by decide +kernel
theorem dX8_init_10 : decode cX8_init 10 = .ok (.putfield 9, 3) := by decide +kernel
theorem dX8_init_13 : decode cX8_init 13 = .ok (.return_, 1) := by decide +kernel
section T
variable {G : GT} {d : Nat} {S : List Value} {h : AH} {P : OC → AH → Prop} {x0 x1 x2 x3 x4 x5 x6 x7 x8 x9 x10 x11 x12 x13 x14 x15 : Option Value}
theorem tX8_init_0 {k : Nat} (r : RQ G mX8_init d 1 [some (.ref k)] (.ref k :: S) (h) P) : RQ G mX8_init d 0 [some (.ref k)] (S) h P := q_aload_n (M := mX8_init) (pc := 0) (r0 := some k) dX8_init_0 rfl rfl r
theorem tX8_init_1 {b : Nat} (hd : 1 ≤ d) (hst : (S.map fun v => v.category).sum ≤ 8 := by exact Nat.le_of_ble_eq_true rfl) (r : RQ G mX8_init d 4 [x0] (S) (h) P) : RQ G mX8_init d 1 [x0] (.ref b :: S) h P := q_objInit (M := mX8_init) (pc := 1) dX8_init_1 w90 w83 w84 hd hst r
theorem tX8_init_4 {k : Nat} (r : RQ G mX8_init d 5 [some (.ref k)] (.ref k :: S) (h) P) : RQ G mX8_init d 4 [some (.ref k)] (S) h P := q_aload_n (M := mX8_init) (pc := 4) (r0 := some k) dX8_init_4 rfl rfl r
theorem tX8_init_5 (r : RQ G mX8_init d 8 [x0] (.int (nI 1600) :: S) (h) P) : RQ G mX8_init d 5 [x0] (S) h P := q_sipush (M := mX8_init) (pc := 5) dX8_init_5 (by decide) r
theorem tX8_init_8 {n : Nat} {x : Int32} (hx : x = nI n) (hn : n < 60000000) (r : RQ G mX8_init d 10 [x0] (.ref h.1 :: S) (hnew h n (.inl (1, n, .inl (fun _ => 0)))) P) : RQ G mX8_init d 8 [x0] (.int x :: S) h P := q_newaB (M := mX8_init) (pc := 8) dX8_init_8 w100 hx hn r
theorem tX8_init_10 {i : Nat} {vs : List Value} {v : Nat} (ha : At h i (.inr (6, vs))) (hlen : vs.length = 2) (r : RQ G mX8_init d 13 [x0] (S) (hset h i (.inr (6, vs.set 0 (.ref v)))) P) : RQ G mX8_init d 10 [x0] (.ref v :: .ref i :: S) h P := q_putF (M := mX8_init) (pc := 10) (kf := 0) (host := "") dX8_init_10 (show CL[6]? = some (RX8, TX8, 2) from rfl) inA8 tyX8_ok nmX8 (by decide) rfl w91 rfl rfl rfl (tyX8_ok 0 (by decide)) (nfit_arr _ v) (by rw [hlen]; decide) ha r
theorem tX8_init_13 (hP : P (.inl none) h) : RQ G mX8_init d 13 [x0] ([]) h P := q_return (M := mX8_init) (pc := 13) dX8_init_13 rfl hP
end T
theorem dX8_hasRoomFor_0 : decode cX8_hasRoomFor 0 = .ok (.aload_n 0, 1) := by decide +kernel
theorem dX8_hasRoomFor_1 : decode cX8_hasRoomFor 1 = .ok (.getfield 15, 3) := by decide +kernel
theorem dX8_hasRoomFor_4 : decode cX8_hasRoomFor 4 = .ok (.sipush 1600, 3) := by decide +kernel
theorem dX8_hasRoomFor_7 : decode cX8_hasRoomFor 7 = .ok (.iload_n 1, 1) := by decide +kernel
theorem dX8_hasRoomFor_8 : decode cX8_hasRoomFor 8 = .ok (.isub, 1) := by decide +kernel
theorem dX8_hasRoomFor_9 : decode cX8_hasRoomFor 9 = .ok (.if_icmp .gt 7, 3) := by decide +kernel
theorem dX8_hasRoomFor_12 : decode cX8_hasRoomFor 12 = .ok (.iconst 1, 1) := by decide +kernel
theorem dX8_hasRoomFor_13 : decode cX8_hasRoomFor 13 = .ok (.goto 4, 3) := by decide +kernel
theorem dX8_hasRoomFor_16 : decode cX8_hasRoomFor 16 = .ok (.iconst 0, 1) := by decide +kernel
theorem dX8_hasRoomFor_17 : decode cX8_hasRoomFor 17 = .ok (.ireturn, 1) := by decide +kernel
section T
variable {G : GT} {d : Nat} {S : List Value} {h : AH} {P : OC → AH → Prop} {x0 x1 x2 x3 x4 x5 x6 x7 x8 x9 x10 x11 x12 x13 x14 x15 : Option Value}
theorem tX8_hasRoomFor_0 {k : Nat} (r : RQ G mX8_hasRoomFor d 1 [some (.ref k), x1] (.ref k :: S) (h) P) : RQ G mX8_hasRoomFor d 0 [some (.ref k), x1] (S) h P := q_aload_n (M := mX8_hasRoomFor) (pc := 0) (r0 := some k) dX8_hasRoomFor_0 rfl rfl r
theorem tX8_hasRoomFor_1 {i : Nat} {vs : List Value} {v : Value} (ha : At h i (.inr (6, vs))) (hv : vs[1]? = some v) (r : RQ G mX8_hasRoomFor d 4 [x0, x1] (v :: S) (h) P) : RQ G mX8_hasRoomFor d 1 [x0, x1] (.ref i :: S) h P := q_get (M := mX8_hasRoomFor) (pc := 1) (kf := 1) dX8_hasRoomFor_1 (show CL[6]? = some (RX8, TX8, 2) from rfl) inA8 (by decide) rfl w92 ha hv r
theorem tX8_hasRoomFor_4 (r : RQ G mX8_hasRoomFor d 7 [x0, x1] (.int (nI 1600) :: S) (h) P) : RQ G mX8_hasRoomFor d 4 [x0, x1] (S) h P := q_sipush (M := mX8_hasRoomFor) (pc := 4) dX8_hasRoomFor_4 (by decide) r
theorem tX8_hasRoomFor_7 {v : Int32} (r : RQ G mX8_hasRoomFor d 8 [x0, some (.int v)] (.int v :: S) (h) P) : RQ G mX8_hasRoomFor d 7 [x0, some (.int v)] (S) h P := q_iload_n (M := mX8_hasRoomFor) (pc := 7) dX8_hasRoomFor_7 rfl rfl r
theorem tX8_hasRoomFor_8 {x y : Int32} (r : RQ G mX8_hasRoomFor d 9 [x0, x1] (.int (x - y) :: S) (h) P) : RQ G mX8_hasRoomFor d 8 [x0, x1] (.int y :: .int x :: S) h P := q_isub (M := mX8_hasRoomFor) (pc := 8) dX8_hasRoomFor_8 r
theorem tX8_hasRoomFor_9 {x y : Int32} (kt : y < x → RQ G mX8_hasRoomFor d 16 [x0, x1] S h P) (kf : ¬ y < x → RQ G mX8_hasRoomFor d 12 [x0, x1] S h P) : RQ G mX8_hasRoomFor d 9 [x0, x1] (.int y :: .int x :: S) h P := q_icmp_gt (M := mX8_hasRoomFor) (pc := 9) dX8_hasRoomFor_9 (by decide) kt kf
theorem tX8_hasRoomFor_12 (r : RQ G mX8_hasRoomFor d 13 [x0, x1] (.int (nI 1) :: S) (h) P) : RQ G mX8_hasRoomFor d 12 [x0, x1] (S) h P := q_iconst (M := mX8_hasRoomFor) (pc := 12) dX8_hasRoomFor_12 (by decide) r
theorem tX8_hasRoomFor_13 (r : RQ G mX8_hasRoomFor d 17 [x0, x1] S h P) : RQ G mX8_hasRoomFor d 13 [x0, x1] (S) h P := q_goto (M := mX8_hasRoomFor) (pc := 13) dX8_hasRoomFor_13 (by decide) r
theorem tX8_hasRoomFor_16 (r : RQ G mX8_hasRoomFor d 17 [x0, x1] (.int (nI 0) :: S) (h) P) : RQ G mX8_hasRoomFor d 16 [x0, x1] (S) h P := q_iconst (M := mX8_hasRoomFor) (pc := 16) dX8_hasRoomFor_16 (by decide) r
theorem tX8_hasRoomFor_17 {x : Int32} (hb : x = nI 0 ∨ x = nI 1) (hP : P (.inl (some (.int x))) h) : RQ G mX8_hasRoomFor d 17 [x0, x1] ([.int x]) h P := q_ireturn (M := mX8_hasRoomFor) (pc := 17) (ty := .boolean) dX8_hasRoomFor_17 rfl (nar_bool hb) hP
end T
theorem dX8_append_0 : decode cX8_append 0 = .ok (.bipush 24, 2) := by decide +kernel
theorem dX8_append_2 : decode cX8_append 2 = .ok (.istore_n 2, 1) := by decide +kernel
theorem dX8_append_3 : decode cX8_append 3 = .ok (.iload_n 2, 1) := by decide +kernel
theorem dX8_append_4 : decode cX8_append 4 = .ok (.ifCond .lt 42, 3) := by decide +kernel
theorem dX8_append_7 : decode cX8_append 7 = .ok (.aload_n 0, 1) := by decide +kernel
theorem dX8_append_8 : decode cX8_append 8 = .ok (.getfield 15, 3) := by decide +kernel
theorem dX8_append_11 : decode cX8_append 11 = .ok (.sipush 1600, 3) := by decide +kernel
theorem dX8_append_14 : decode cX8_append 14 = .ok (.if_icmp .ge 32, 3) := by decide +kernel
theorem dX8_append_17 : decode cX8_append 17 = .ok (.aload_n 0, 1) := by decide +kernel
theorem dX8_append_18 : decode cX8_append 18 = .ok (.getfield 9, 3) := by decide +kernel
theorem dX8_append_21 : decode cX8_append 21 = .ok (.aload_n 0, 1) := by decide +kernel
theorem dX8_append_22 : decode cX8_append 22 = .ok (.getfield 15, 3) := by decide +kernel
theorem dX8_append_25 : decode cX8_append 25 = .ok (.iload_n 1, 1) := by decide +kernel
theorem dX8_append_26 : decode cX8_append 26 = .ok (.iload_n 2, 1) := by decide +kernel
theorem dX8_append_27 : decode cX8_append 27 = .ok (.ishr, 1) := by decide +kernel
theorem dX8_append_28 : decode cX8_append 28 = .ok (.i2b, 1) := by decide +kernel
theorem dX8_append_29 : decode cX8_append 29 = .ok (.bastore, 1) := by decide +kernel
theorem dX8_append_30 : decode cX8_append 30 = .ok (.aload_n 0, 1) := by decide +kernel
theorem dX8_append_31 : decode cX8_append 31 = .ok (.dup, 1) := by decide +kernel
theorem dX8_append_32 : decode cX8_append 32 = .ok (.getfield 15, 3) := by decide +kernel
theorem dX8_append_35 : decode cX8_append 35 = .ok (.iconst 1, 1) := by decide +kernel
theorem dX8_append_36 : decode cX8_append 36 = .ok (.iadd, 1) := by decide +kernel
theorem dX8_append_37 : decode cX8_append 37 = .ok (.putfield 15, 3) := by decide +kernel
theorem dX8_append_40 : decode cX8_append 40 = .ok (.iinc 2 (-8), 3) := by decide +kernel
theorem dX8_append_43 : decode cX8_append 43 = .ok (.goto (-40), 3) := by decide +kernel
theorem dX8_append_46 : decode cX8_append 46 = .ok (.return_, 1) := by decide +kernel
section T
variable {G : GT} {d : Nat} {S : List Value} {h : AH} {P : OC → AH → Prop} {x0 x1 x2 x3 x4 x5 x6 x7 x8 x9 x10 x11 x12 x13 x14 x15 : Option Value}
theorem tX8_append_0 (r : RQ G mX8_append d 2 [x0, x1, x2] (.int (nI 24) :: S) (h) P) : RQ G mX8_append d 0 [x0, x1, x2] (S) h P := q_bipush (M := mX8_append) (pc := 0) dX8_append_0 (by decide) r
theorem tX8_append_2 {v : Int32} (ho : ok1 x1 = true := by rfl) (r : RQ G mX8_append d 3 [x0, x1, some (.int v)] (S) (h) P) : RQ G mX8_append d 2 [x0, x1, x2] (.int v :: S) h P := q_istore_n (M := mX8_append) (pc := 2) dX8_append_2 rfl (Nat.le_of_ble_eq_true rfl) ho r
theorem tX8_append_3 {v : Int32} (r : RQ G mX8_append d 4 [x0, x1, some (.int v)] (.int v :: S) (h) P) : RQ G mX8_append d 3 [x0, x1, some (.int v)] (S) h P := q_iload_n (M := mX8_append) (pc := 3) dX8_append_3 rfl rfl r
theorem tX8_append_4 {x : Int32} (kt : x < 0 → RQ G mX8_append d 46 [x0, x1, x2] S h P) (kf : ¬ x < 0 → RQ G mX8_append d 7 [x0, x1, x2] S h P) : RQ G mX8_append d 4 [x0, x1, x2] (.int x :: S) h P := q_if_lt (M := mX8_append) (pc := 4) dX8_append_4 (by decide) kt kf
theorem tX8_append_7 {k : Nat} (r : RQ G mX8_append d 8 [some (.ref k), x1, x2] (.ref k :: S) (h) P) : RQ G mX8_append d 7 [some (.ref k), x1, x2] (S) h P := q_aload_n (M := mX8_append) (pc := 7) (r0 := some k) dX8_append_7 rfl rfl r
theorem tX8_append_8 {i : Nat} {vs : List Value} {v : Value} (ha : At h i (.inr (6, vs))) (hv : vs[1]? = some v) (r : RQ G mX8_append d 11 [x0, x1, x2] (v :: S) (h) P) : RQ G mX8_append d 8 [x0, x1, x2] (.ref i :: S) h P := q_get (M := mX8_append) (pc := 8) (kf := 1) dX8_append_8 (show CL[6]? = some (RX8, TX8, 2) from rfl) inA8 (by decide) rfl w92 ha hv r
theorem tX8_append_11 (r : RQ G mX8_append d 14 [x0, x1, x2] (.int (nI 1600) :: S) (h) P) : RQ G mX8_append d 11 [x0, x1, x2] (S) h P := q_sipush (M := mX8_append) (pc := 11) dX8_append_11 (by decide) r
theorem tX8_append_14 {x y : Int32} (kt : y ≤ x → RQ G mX8_append d 46 [x0, x1, x2] S h P) (kf : ¬ y ≤ x → RQ G mX8_append d 17 [x0, x1, x2] S h P) : RQ G mX8_append d 14 [x0, x1, x2] (.int y :: .int x :: S) h P := q_icmp_ge (M := mX8_append) (pc := 14) dX8_append_14 (by decide) kt kf
theorem tX8_append_17 {k : Nat} (r : RQ G mX8_append d 18 [some (.ref k), x1, x2] (.ref k :: S) (h) P) : RQ G mX8_append d 17 [some (.ref k), x1, x2] (S) h P := q_aload_n (M := mX8_append) (pc := 17) (r0 := some k) dX8_append_17 rfl rfl r
theorem tX8_append_18 {i : Nat} {vs : List Value} {v : Value} (ha : At h i (.inr (6, vs))) (hv : vs[0]? = some v) (r : RQ G mX8_append d 21 [x0, x1, x2] (v :: S) (h) P) : RQ G mX8_append d 18 [x0, x1, x2] (.ref i :: S) h P := q_get (M := mX8_append) (pc := 18) (kf := 0) dX8_append_18 (show CL[6]? = some (RX8, TX8, 2) from rfl) inA8 (by decide) rfl w91 ha hv r
theorem tX8_append_21 {k : Nat} (r : RQ G mX8_append d 22 [some (.ref k), x1, x2] (.ref k :: S) (h) P) : RQ G mX8_append d 21 [some (.ref k), x1, x2] (S) h P := q_aload_n (M := mX8_append) (pc := 21) (r0 := some k) dX8_append_21 rfl rfl r
theorem tX8_append_22 {i : Nat} {vs : List Value} {v : Value} (ha : At h i (.inr (6, vs))) (hv : vs[1]? = some v) (r : RQ G mX8_append d 25 [x0, x1, x2] (v :: S) (h) P) : RQ G mX8_append d 22 [x0, x1, x2] (.ref i :: S) h P := q_get (M := mX8_append) (pc := 22) (kf := 1) dX8_append_22 (show CL[6]? = some (RX8, TX8, 2) from rfl) inA8 (by decide) rfl w92 ha hv r
theorem tX8_append_25 {v : Int32} (r : RQ G mX8_append d 26 [x0, some (.int v), x2] (.int v :: S) (h) P) : RQ G mX8_append d 25 [x0, some (.int v), x2] (S) h P := q_iload_n (M := mX8_append) (pc := 25) dX8_append_25 rfl rfl r
theorem tX8_append_26 {v : Int32} (r : RQ G mX8_append d 27 [x0, x1, some (.int v)] (.int v :: S) (h) P) : RQ G mX8_append d 26 [x0, x1, some (.int v)] (S) h P := q_iload_n (M := mX8_append) (pc := 26) dX8_append_26 rfl rfl r
theorem tX8_append_27 {x y : Int32} (r : RQ G mX8_append d 28 [x0, x1, x2] (.int (x >>> (y &&& 31)) :: S) (h) P) : RQ G mX8_append d 27 [x0, x1, x2] (.int y :: .int x :: S) h P := q_ishr (M := mX8_append) (pc := 27) dX8_append_27 r
theorem tX8_append_28 {x : Int32} (r : RQ G mX8_append d 29 [x0, x1, x2] (.int x.toInt8.toInt32 :: S) (h) P) : RQ G mX8_append d 28 [x0, x1, x2] (.int x :: S) h P := q_i2b (M := mX8_append) (pc := 28) dX8_append_28 r
theorem tX8_append_29 {a n j : Nat} {x : Int32} {v : Int32} {f : Nat → Int32} (ha : At h a (.inl (1, n, .inl f))) (hx : x = nI j) (hj : j < n) (hn : n < 2147483648) (r : RQ G mX8_append d 30 [x0, x1, x2] (S) (hset h a (.inl (1, n, .inl (upd f j (vp_nar .byte v))))) P) : RQ G mX8_append d 29 [x0, x1, x2] (.int v :: .int x :: .ref a :: S) h P := q_bast (M := mX8_append) (pc := 29) dX8_append_29 ha hx hj hn r
theorem tX8_append_30 {k : Nat} (r : RQ G mX8_append d 31 [some (.ref k), x1, x2] (.ref k :: S) (h) P) : RQ G mX8_append d 30 [some (.ref k), x1, x2] (S) h P := q_aload_n (M := mX8_append) (pc := 30) (r0 := some k) dX8_append_30 rfl rfl r
theorem tX8_append_31 {v : Value} (hv : ok1 (some v) = true := by rfl) (r : RQ G mX8_append d 32 [x0, x1, x2] (v :: v :: S) (h) P) : RQ G mX8_append d 31 [x0, x1, x2] (v :: S) h P := q_dup (M := mX8_append) (pc := 31) dX8_append_31 hv r
theorem tX8_append_32 {i : Nat} {vs : List Value} {v : Value} (ha : At h i (.inr (6, vs))) (hv : vs[1]? = some v) (r : RQ G mX8_append d 35 [x0, x1, x2] (v :: S) (h) P) : RQ G mX8_append d 32 [x0, x1, x2] (.ref i :: S) h P := q_get (M := mX8_append) (pc := 32) (kf := 1) dX8_append_32 (show CL[6]? = some (RX8, TX8, 2) from rfl) inA8 (by decide) rfl w92 ha hv r
theorem tX8_append_35 (r : RQ G mX8_append d 36 [x0, x1, x2] (.int (nI 1) :: S) (h) P) : RQ G mX8_append d 35 [x0, x1, x2] (S) h P := q_iconst (M := mX8_append) (pc := 35) dX8_append_35 (by decide) r
theorem tX8_append_36 {x y : Int32} (r : RQ G mX8_append d 37 [x0, x1, x2] (.int (x + y) :: S) (h) P) : RQ G mX8_append d 36 [x0, x1, x2] (.int y :: .int x :: S) h P := q_iadd (M := mX8_append) (pc := 36) dX8_append_36 r
theorem tX8_append_37 {i : Nat} {vs : List Value} {v : Int32} (ha : At h i (.inr (6, vs))) (hlen : vs.length = 2) (r : RQ G mX8_append d 40 [x0, x1, x2] (S) (hset h i (.inr (6, vs.set 1 (.int v)))) P) : RQ G mX8_append d 37 [x0, x1, x2] (.int v :: .ref i :: S) h P := q_put (M := mX8_append) (pc := 37) (kf := 1) (host := "") dX8_append_37 (show CL[6]? = some (RX8, TX8, 2) from rfl) inA8 tyX8_ok nmX8 (by decide) rfl w92 rfl (tyX8_ok 1 (by decide)) (nfit_int v) (by rw [hlen]; decide) ha r
theorem tX8_append_40 {v : Int32} (ho : ok1 x1 = true := by rfl) (r : RQ G mX8_append d 43 [x0, x1, some (.int (v + (-8)))] (S) (h) P) : RQ G mX8_append d 40 [x0, x1, some (.int v)] (S) h P := q_iinc (M := mX8_append) (pc := 40) dX8_append_40 rfl (congrArg (v + ·) (show Int32.ofInt (-8) = (-8) by decide)) (Nat.le_of_ble_eq_true rfl) ho r
theorem tX8_append_43 (r : RQ G mX8_append d 3 [x0, x1, x2] S h P) : RQ G mX8_append d 43 [x0, x1, x2] (S) h P := q_goto (M := mX8_append) (pc := 43) dX8_append_43 (by decide) r
theorem tX8_append_46 (hP : P (.inl none) h) : RQ G mX8_append d 46 [x0, x1, x2] ([]) h P := q_return (M := mX8_append) (pc := 46) dX8_append_46 rfl hP
end T
theorem dX8_at_0 : decode cX8_at 0 = .ok (.iload_n 1, 1) := by decide +kernel
theorem dX8_at_1 : decode cX8_at 1 = .ok (.ifCond .lt 24, 3) := by decide +kernel
theorem dX8_at_4 : decode cX8_at 4 = .ok (.iload_n 1, 1) := by decide +kernel
theorem dX8_at_5 : decode cX8_at 5 = .ok (.aload_n 0, 1) := by decide +kernel
theorem dX8_at_6 : decode cX8_at 6 = .ok (.getfield 15, 3) := by decide +kernel
theorem dX8_at_9 : decode cX8_at 9 = .ok (.if_icmp .ge 16, 3) := by decide +kernel
theorem dX8_at_12 : decode cX8_at 12 = .ok (.aload_n 0, 1) := by decide +kernel
theorem dX8_at_13 : decode cX8_at 13 = .ok (.getfield 9, 3) := by decide +kernel
theorem dX8_at_16 : decode cX8_at 16 = .ok (.iload_n 1, 1) := by decide +kernel
theorem dX8_at_17 : decode cX8_at 17 = .ok (.baload, 1) := by decide +kernel
theorem dX8_at_18 : decode cX8_at 18 = .ok (.sipush 255, 3) := by decide +kernel
theorem dX8_at_21 : decode cX8_at 21 = .ok (.iand, 1) := by decide +kernel
theorem dX8_at_22 : decode cX8_at 22 = .ok (.goto 4, 3) := by decide +kernel
theorem dX8_at_25 : decode cX8_at 25 = .ok (.iconst (-1), 1) := by decide +kernel
theorem dX8_at_26 : decode cX8_at 26 = .ok (.ireturn, 1) := by decide +kernel
section T
variable {G : GT} {d : Nat} {S : List Value} {h : AH} {P : OC → AH → Prop} {x0 x1 x2 x3 x4 x5 x6 x7 x8 x9 x10 x11 x12 x13 x14 x15 : Option Value}
theorem tX8_at_0 {v : Int32} (r : RQ G mX8_at d 1 [x0, some (.int v)] (.int v :: S) (h) P) : RQ G mX8_at d 0 [x0, some (.int v)] (S) h P := q_iload_n (M := mX8_at) (pc := 0) dX8_at_0 rfl rfl r
theorem tX8_at_1 {x : Int32} (kt : x < 0 → RQ G mX8_at d 25 [x0, x1] S h P) (kf : ¬ x < 0 → RQ G mX8_at d 4 [x0, x1] S h P) : RQ G mX8_at d 1 [x0, x1] (.int x :: S) h P := q_if_lt (M := mX8_at) (pc := 1) dX8_at_1 (by decide) kt kf
theorem tX8_at_4 {v : Int32} (r : RQ G mX8_at d 5 [x0, some (.int v)] (.int v :: S) (h) P) : RQ G mX8_at d 4 [x0, some (.int v)] (S) h P := q_iload_n (M := mX8_at) (pc := 4) dX8_at_4 rfl rfl r
theorem tX8_at_5 {k : Nat} (r : RQ G mX8_at d 6 [some (.ref k), x1] (.ref k :: S) (h) P) : RQ G mX8_at d 5 [some (.ref k), x1] (S) h P := q_aload_n (M := mX8_at) (pc := 5) (r0 := some k) dX8_at_5 rfl rfl r
theorem tX8_at_6 {i : Nat} {vs : List Value} {v : Value} (ha : At h i (.inr (6, vs))) (hv : vs[1]? = some v) (r : RQ G mX8_at d 9 [x0, x1] (v :: S) (h) P) : RQ G mX8_at d 6 [x0, x1] (.ref i :: S) h P := q_get (M := mX8_at) (pc := 6) (kf := 1) dX8_at_6 (show CL[6]? = some (RX8, TX8, 2) from rfl) inA8 (by decide) rfl w92 ha hv r
theorem tX8_at_9 {x y : Int32} (kt : y ≤ x → RQ G mX8_at d 25 [x0, x1] S h P) (kf : ¬ y ≤ x → RQ G mX8_at d 12 [x0, x1] S h P) : RQ G mX8_at d 9 [x0, x1] (.int y :: .int x :: S) h P := q_icmp_ge (M := mX8_at) (pc := 9) dX8_at_9 (by decide) kt kf
theorem tX8_at_12 {k : Nat} (r : RQ G mX8_at d 13 [some (.ref k), x1] (.ref k :: S) (h) P) : RQ G mX8_at d 12 [some (.ref k), x1] (S) h P := q_aload_n (M := mX8_at) (pc := 12) (r0 := some k) dX8_at_12 rfl rfl r
theorem tX8_at_13 {i : Nat} {vs : List Value} {v : Value} (ha : At h i (.inr (6, vs))) (hv : vs[0]? = some v) (r : RQ G mX8_at d 16 [x0, x1] (v :: S) (h) P) : RQ G mX8_at d 13 [x0, x1] (.ref i :: S) h P := q_get (M := mX8_at) (pc := 13) (kf := 0) dX8_at_13 (show CL[6]? = some (RX8, TX8, 2) from rfl) inA8 (by decide) rfl w91 ha hv r
theorem tX8_at_16 {v : Int32} (r : RQ G mX8_at d 17 [x0, some (.int v)] (.int v :: S) (h) P) : RQ G mX8_at d 16 [x0, some (.int v)] (S) h P := q_iload_n (M := mX8_at) (pc := 16) dX8_at_16 rfl rfl r
theorem tX8_at_17 {a n j : Nat} {x : Int32} {f : Nat → Int32} (ha : At h a (.inl (1, n, .inl f))) (hx : x = nI j) (hj : j < n) (hn : n < 2147483648) (r : RQ G mX8_at d 18 [x0, x1] (.int (f j) :: S) (h) P) : RQ G mX8_at d 17 [x0, x1] (.int x :: .ref a :: S) h P := q_bald (M := mX8_at) (pc := 17) dX8_at_17 ha hx hj hn r
theorem tX8_at_18 (r : RQ G mX8_at d 21 [x0, x1] (.int (nI 255) :: S) (h) P) : RQ G mX8_at d 18 [x0, x1] (S) h P := q_sipush (M := mX8_at) (pc := 18) dX8_at_18 (by decide) r
theorem tX8_at_21 {x y : Int32} (r : RQ G mX8_at d 22 [x0, x1] (.int (x &&& y) :: S) (h) P) : RQ G mX8_at d 21 [x0, x1] (.int y :: .int x :: S) h P := q_iand (M := mX8_at) (pc := 21) dX8_at_21 r
theorem tX8_at_22 (r : RQ G mX8_at d 26 [x0, x1] S h P) : RQ G mX8_at d 22 [x0, x1] (S) h P := q_goto (M := mX8_at) (pc := 22) dX8_at_22 (by decide) r
theorem tX8_at_25 (r : RQ G mX8_at d 26 [x0, x1] (.int (-1) :: S) (h) P) : RQ G mX8_at d 25 [x0, x1] (S) h P := q_iconst (M := mX8_at) (pc := 25) dX8_at_25 (by decide) r
theorem tX8_at_26 {x : Int32} (hP : P (.inl (some (.int x))) h) : RQ G mX8_at d 26 [x0, x1] ([.int x]) h P := q_ireturn (M := mX8_at) (pc := 26) (ty := .int) dX8_at_26 rfl rfl hP
end T
theorem dX8_isLetter_0 : decode cX8_isLetter 0 = .ok (.aload_n 0, 1) := by decide +kernel
theorem dX8_isLetter_1 : decode cX8_isLetter 1 = .ok (.iload_n 1, 1) := by decide +kernel
theorem dX8_isLetter_2 : decode cX8_isLetter 2 = .ok (.invokevirtual 19, 3) := by decide +kernel
theorem dX8_isLetter_5 : decode cX8_isLetter 5 = .ok (.bipush 97, 2) := by decide +kernel
theorem dX8_isLetter_7 : decode cX8_isLetter 7 = .ok (.if_icmp .lt 17, 3) := by decide +kernel
theorem dX8_isLetter_10 : decode cX8_isLetter 10 = .ok (.aload_n 0, 1) := by decide +kernel
theorem dX8_isLetter_11 : decode cX8_isLetter 11 = .ok (.iload_n 1, 1) := by decide +kernel
theorem dX8_isLetter_12 : decode cX8_isLetter 12 = .ok (.invokevirtual 19, 3) := by decide +kernel
theorem dX8_isLetter_15 : decode cX8_isLetter 15 = .ok (.bipush 122, 2) := by decide +kernel
theorem dX8_isLetter_17 : decode cX8_isLetter 17 = .ok (.if_icmp .gt 7, 3) := by decide +kernel
theorem dX8_isLetter_20 : decode cX8_isLetter 20 = .ok (.iconst 1, 1) := by decide +kernel
theorem dX8_isLetter_21 : decode cX8_isLetter 21 = .ok (.goto 4, 3) := by decide +kernel
theorem dX8_isLetter_24 : decode cX8_isLetter 24 = .ok (.iconst 0, 1) := by decide +kernel
theorem dX8_isLetter_25 : decode cX8_isLetter 25 = .ok (.ireturn, 1) := by decide +kernel
section T
variable {G : GT} {d : Nat} {S : List Value} {h : AH} {P : OC → AH → Prop} {x0 x1 x2 x3 x4 x5 x6 x7 x8 x9 x10 x11 x12 x13 x14 x15 : Option Value}
theorem tX8_isLetter_0 {k : Nat} (r : RQ G mX8_isLetter d 1 [some (.ref k), x1] (.ref k :: S) (h) P) : RQ G mX8_isLetter d 0 [some (.ref k), x1] (S) h P := q_aload_n (M := mX8_isLetter) (pc := 0) (r0 := some k) dX8_isLetter_0 rfl rfl r
theorem tX8_isLetter_1 {v : Int32} (r : RQ G mX8_isLetter d 2 [x0, some (.int v)] (.int v :: S) (h) P) : RQ G mX8_isLetter d 1 [x0, some (.int v)] (S) h P := q_iload_n (M := mX8_isLetter) (pc := 1) dX8_isLetter_1 rfl rfl r
theorem tX8_isLetter_2 {b d2 : Nat} {vs : List Value} {a0 : Int32} {Q : Int32 → AH → Prop} (hd : d2 + 1 ≤ d) (ha : At h b (.inr (6, vs))) (call : RQ G mX8_at d2 0 [some (.ref b), some (.int a0)] [] h (Ri Q)) (k : ∀ x h1, Q x h1 → RQ G mX8_isLetter d 5 [x0, x1] (.int x :: S) h1 P) (hst : (S.map fun v => v.category).sum ≤ 8 := by exact Nat.le_of_ble_eq_true rfl)  : RQ G mX8_isLetter d 2 [x0, x1] (.int a0 :: .ref b :: S) h P := q_callV (M := mX8_isLetter) (pc := 2) (M2 := mX8_at) (As := [.int a0]) (n := 1) dX8_isLetter_2 rfl ⟨by decide, by decide, by decide, rfl⟩ rfl w957 w958 w959 w42 w960 (show CL[6]? = some (RX8, TX8, 2) from rfl) hd (by decide) (Nat.le_of_ble_eq_true rfl) rfl ha hst call (callk_i k)
theorem tX8_isLetter_5 (r : RQ G mX8_isLetter d 7 [x0, x1] (.int (nI 97) :: S) (h) P) : RQ G mX8_isLetter d 5 [x0, x1] (S) h P := q_bipush (M := mX8_isLetter) (pc := 5) dX8_isLetter_5 (by decide) r
theorem tX8_isLetter_7 {x y : Int32} (kt : x < y → RQ G mX8_isLetter d 24 [x0, x1] S h P) (kf : ¬ x < y → RQ G mX8_isLetter d 10 [x0, x1] S h P) : RQ G mX8_isLetter d 7 [x0, x1] (.int y :: .int x :: S) h P := q_icmp_lt (M := mX8_isLetter) (pc := 7) dX8_isLetter_7 (by decide) kt kf
theorem tX8_isLetter_10 {k : Nat} (r : RQ G mX8_isLetter d 11 [some (.ref k), x1] (.ref k :: S) (h) P) : RQ G mX8_isLetter d 10 [some (.ref k), x1] (S) h P := q_aload_n (M := mX8_isLetter) (pc := 10) (r0 := some k) dX8_isLetter_10 rfl rfl r
theorem tX8_isLetter_11 {v : Int32} (r : RQ G mX8_isLetter d 12 [x0, some (.int v)] (.int v :: S) (h) P) : RQ G mX8_isLetter d 11 [x0, some (.int v)] (S) h P := q_iload_n (M := mX8_isLetter) (pc := 11) dX8_isLetter_11 rfl rfl r
theorem tX8_isLetter_12 {b d2 : Nat} {vs : List Value} {a0 : Int32} {Q : Int32 → AH → Prop} (hd : d2 + 1 ≤ d) (ha : At h b (.inr (6, vs))) (call : RQ G mX8_at d2 0 [some (.ref b), some (.int a0)] [] h (Ri Q)) (k : ∀ x h1, Q x h1 → RQ G mX8_isLetter d 15 [x0, x1] (.int x :: S) h1 P) (hst : (S.map fun v => v.category).sum ≤ 8 := by exact Nat.le_of_ble_eq_true rfl)  : RQ G mX8_isLetter d 12 [x0, x1] (.int a0 :: .ref b :: S) h P := q_callV (M := mX8_isLetter) (pc := 12) (M2 := mX8_at) (As := [.int a0]) (n := 1) dX8_isLetter_12 rfl ⟨by decide, by decide, by decide, rfl⟩ rfl w957 w958 w959 w42 w960 (show CL[6]? = some (RX8, TX8, 2) from rfl) hd (by decide) (Nat.le_of_ble_eq_true rfl) rfl ha hst call (callk_i k)
theorem tX8_isLetter_15 (r : RQ G mX8_isLetter d 17 [x0, x1] (.int (nI 122) :: S) (h) P) : RQ G mX8_isLetter d 15 [x0, x1] (S) h P := q_bipush (M := mX8_isLetter) (pc := 15) dX8_isLetter_15 (by decide) r
theorem tX8_isLetter_17 {x y : Int32} (kt : y < x → RQ G mX8_isLetter d 24 [x0, x1] S h P) (kf : ¬ y < x → RQ G mX8_isLetter d 20 [x0, x1] S h P) : RQ G mX8_isLetter d 17 [x0, x1] (.int y :: .int x :: S) h P := q_icmp_gt (M := mX8_isLetter) (pc := 17) dX8_isLetter_17 (by decide) kt kf
theorem tX8_isLetter_20 (r : RQ G mX8_isLetter d 21 [x0, x1] (.int (nI 1) :: S) (h) P) : RQ G mX8_isLetter d 20 [x0, x1] (S) h P := q_iconst (M := mX8_isLetter) (pc := 20) dX8_isLetter_20 (by decide) r
theorem tX8_isLetter_21 (r : RQ G mX8_isLetter d 25 [x0, x1] S h P) : RQ G mX8_isLetter d 21 [x0, x1] (S) h P := q_goto (M := mX8_isLetter) (pc := 21) dX8_isLetter_21 (by decide) r
theorem tX8_isLetter_24 (r : RQ G mX8_isLetter d 25 [x0, x1] (.int (nI 0) :: S) (h) P) : RQ G mX8_isLetter d 24 [x0, x1] (S) h P := q_iconst (M := mX8_isLetter) (pc := 24) dX8_isLetter_24 (by decide) r
theorem tX8_isLetter_25 {x : Int32} (hb : x = nI 0 ∨ x = nI 1) (hP : P (.inl (some (.int x))) h) : RQ G mX8_isLetter d 25 [x0, x1] ([.int x]) h P := q_ireturn (M := mX8_isLetter) (pc := 25) (ty := .boolean) dX8_isLetter_25 rfl (nar_bool hb) hP
end T
theorem dX8_isDigit_0 : decode cX8_isDigit 0 = .ok (.aload_n 0, 1) := by decide +kernel
theorem dX8_isDigit_1 : decode cX8_isDigit 1 = .ok (.iload_n 1, 1) := by decide +kernel
theorem dX8_isDigit_2 : decode cX8_isDigit 2 = .ok (.invokevirtual 19, 3) := by decide +kernel
theorem dX8_isDigit_5 : decode cX8_isDigit 5 = .ok (.bipush 48, 2) := by decide +kernel
theorem dX8_isDigit_7 : decode cX8_isDigit 7 = .ok (.if_icmp .lt 17, 3) := by decide +kernel
theorem dX8_isDigit_10 : decode cX8_isDigit 10 = .ok (.aload_n 0, 1) := by decide +kernel
theorem dX8_isDigit_11 : decode cX8_isDigit 11 = .ok (.iload_n 1, 1) := by decide +kernel
theorem dX8_isDigit_12 : decode cX8_isDigit 12 = .ok (.invokevirtual 19, 3) := by decide +kernel
theorem dX8_isDigit_15 : decode cX8_isDigit 15 = .ok (.bipush 57, 2) := by decide +kernel
theorem dX8_isDigit_17 : decode cX8_isDigit 17 = .ok (.if_icmp .gt 7, 3) := by decide +kernel
theorem dX8_isDigit_20 : decode cX8_isDigit 20 = .ok (.iconst 1, 1) := by decide +kernel
theorem dX8_isDigit_21 : decode cX8_isDigit 21 = .ok (.goto 4, 3) := by decide +kernel
theorem dX8_isDigit_24 : decode cX8_isDigit 24 = .ok (.iconst 0, 1) := by decide +kernel
theorem dX8_isDigit_25 : decode cX8_isDigit 25 = .ok (.ireturn, 1) := by decide +kernel
section T
variable {G : GT} {d : Nat} {S : List Value} {h : AH} {P : OC → AH → Prop} {x0 x1 x2 x3 x4 x5 x6 x7 x8 x9 x10 x11 x12 x13 x14 x15 : Option Value}
theorem tX8_isDigit_0 {k : Nat} (r : RQ G mX8_isDigit d 1 [some (.ref k), x1] (.ref k :: S) (h) P) : RQ G mX8_isDigit d 0 [some (.ref k), x1] (S) h P := q_aload_n (M := mX8_isDigit) (pc := 0) (r0 := some k) dX8_isDigit_0 rfl rfl r
theorem tX8_isDigit_1 {v : Int32} (r : RQ G mX8_isDigit d 2 [x0, some (.int v)] (.int v :: S) (h) P) : RQ G mX8_isDigit d 1 [x0, some (.int v)] (S) h P := q_iload_n (M := mX8_isDigit) (pc := 1) dX8_isDigit_1 rfl rfl r
theorem tX8_isDigit_2 {b d2 : Nat} {vs : List Value} {a0 : Int32} {Q : Int32 → AH → Prop} (hd : d2 + 1 ≤ d) (ha : At h b (.inr (6, vs))) (call : RQ G mX8_at d2 0 [some (.ref b), some (.int a0)] [] h (Ri Q)) (k : ∀ x h1, Q x h1 → RQ G mX8_isDigit d 5 [x0, x1] (.int x :: S) h1 P) (hst : (S.map fun v => v.category).sum ≤ 8 := by exact Nat.le_of_ble_eq_true rfl)  : RQ G mX8_isDigit d 2 [x0, x1] (.int a0 :: .ref b :: S) h P := q_callV (M := mX8_isDigit) (pc := 2) (M2 := mX8_at) (As := [.int a0]) (n := 1) dX8_isDigit_2 rfl ⟨by decide, by decide, by decide, rfl⟩ rfl w957 w958 w959 w42 w960 (show CL[6]? = some (RX8, TX8, 2) from rfl) hd (by decide) (Nat.le_of_ble_eq_true rfl) rfl ha hst call (callk_i k)
theorem tX8_isDigit_5 (r : RQ G mX8_isDigit d 7 [x0, x1] (.int (nI 48) :: S) (h) P) : RQ G mX8_isDigit d 5 [x0, x1] (S) h P := q_bipush (M := mX8_isDigit) (pc := 5) dX8_isDigit_5 (by decide) r
theorem tX8_isDigit_7 {x y : Int32} (kt : x < y → RQ G mX8_isDigit d 24 [x0, x1] S h P) (kf : ¬ x < y → RQ G mX8_isDigit d 10 [x0, x1] S h P) : RQ G mX8_isDigit d 7 [x0, x1] (.int y :: .int x :: S) h P := q_icmp_lt (M := mX8_isDigit) (pc := 7) dX8_isDigit_7 (by decide) kt kf
theorem tX8_isDigit_10 {k : Nat} (r : RQ G mX8_isDigit d 11 [some (.ref k), x1] (.ref k :: S) (h) P) : RQ G mX8_isDigit d 10 [some (.ref k), x1] (S) h P := q_aload_n (M := mX8_isDigit) (pc := 10) (r0 := some k) dX8_isDigit_10 rfl rfl r
theorem tX8_isDigit_11 {v : Int32} (r : RQ G mX8_isDigit d 12 [x0, some (.int v)] (.int v :: S) (h) P) : RQ G mX8_isDigit d 11 [x0, some (.int v)] (S) h P := q_iload_n (M := mX8_isDigit) (pc := 11) dX8_isDigit_11 rfl rfl r
theorem tX8_isDigit_12 {b d2 : Nat} {vs : List Value} {a0 : Int32} {Q : Int32 → AH → Prop} (hd : d2 + 1 ≤ d) (ha : At h b (.inr (6, vs))) (call : RQ G mX8_at d2 0 [some (.ref b), some (.int a0)] [] h (Ri Q)) (k : ∀ x h1, Q x h1 → RQ G mX8_isDigit d 15 [x0, x1] (.int x :: S) h1 P) (hst : (S.map fun v => v.category).sum ≤ 8 := by exact Nat.le_of_ble_eq_true rfl)  : RQ G mX8_isDigit d 12 [x0, x1] (.int a0 :: .ref b :: S) h P := q_callV (M := mX8_isDigit) (pc := 12) (M2 := mX8_at) (As := [.int a0]) (n := 1) dX8_isDigit_12 rfl ⟨by decide, by decide, by decide, rfl⟩ rfl w957 w958 w959 w42 w960 (show CL[6]? = some (RX8, TX8, 2) from rfl) hd (by decide) (Nat.le_of_ble_eq_true rfl) rfl ha hst call (callk_i k)
theorem tX8_isDigit_15 (r : RQ G mX8_isDigit d 17 [x0, x1] (.int (nI 57) :: S) (h) P) : RQ G mX8_isDigit d 15 [x0, x1] (S) h P := q_bipush (M := mX8_isDigit) (pc := 15) dX8_isDigit_15 (by decide) r
theorem tX8_isDigit_17 {x y : Int32} (kt : y < x → RQ G mX8_isDigit d 24 [x0, x1] S h P) (kf : ¬ y < x → RQ G mX8_isDigit d 20 [x0, x1] S h P) : RQ G mX8_isDigit d 17 [x0, x1] (.int y :: .int x :: S) h P := q_icmp_gt (M := mX8_isDigit) (pc := 17) dX8_isDigit_17 (by decide) kt kf
theorem tX8_isDigit_20 (r : RQ G mX8_isDigit d 21 [x0, x1] (.int (nI 1) :: S) (h) P) : RQ G mX8_isDigit d 20 [x0, x1] (S) h P := q_iconst (M := mX8_isDigit) (pc := 20) dX8_isDigit_20 (by decide) r
theorem tX8_isDigit_21 (r : RQ G mX8_isDigit d 25 [x0, x1] S h P) : RQ G mX8_isDigit d 21 [x0, x1] (S) h P := q_goto (M := mX8_isDigit) (pc := 21) dX8_isDigit_21 (by decide) r
theorem tX8_isDigit_24 (r : RQ G mX8_isDigit d 25 [x0, x1] (.int (nI 0) :: S) (h) P) : RQ G mX8_isDigit d 24 [x0, x1] (S) h P := q_iconst (M := mX8_isDigit) (pc := 24) dX8_isDigit_24 (by decide) r
theorem tX8_isDigit_25 {x : Int32} (hb : x = nI 0 ∨ x = nI 1) (hP : P (.inl (some (.int x))) h) : RQ G mX8_isDigit d 25 [x0, x1] ([.int x]) h P := q_ireturn (M := mX8_isDigit) (pc := 25) (ty := .boolean) dX8_isDigit_25 rfl (nar_bool hb) hP
end T
theorem dX8_isBlank_0 : decode cX8_isBlank 0 = .ok (.aload_n 0, 1) := by decide +kernel
theorem dX8_isBlank_1 : decode cX8_isBlank 1 = .ok (.iload_n 1, 1) := by decide +kernel
theorem dX8_isBlank_2 : decode cX8_isBlank 2 = .ok (.invokevirtual 19, 3) := by decide +kernel
theorem dX8_isBlank_5 : decode cX8_isBlank 5 = .ok (.bipush 32, 2) := by decide +kernel
theorem dX8_isBlank_7 : decode cX8_isBlank 7 = .ok (.if_icmp .eq 13, 3) := by decide +kernel
theorem dX8_isBlank_10 : decode cX8_isBlank 10 = .ok (.aload_n 0, 1) := by decide +kernel
theorem dX8_isBlank_11 : decode cX8_isBlank 11 = .ok (.iload_n 1, 1) := by decide +kernel
theorem dX8_isBlank_12 : decode cX8_isBlank 12 = .ok (.invokevirtual 19, 3) := by decide +kernel
theorem dX8_isBlank_15 : decode cX8_isBlank 15 = .ok (.bipush 10, 2) := by decide +kernel
theorem dX8_isBlank_17 : decode cX8_isBlank 17 = .ok (.if_icmp .ne 7, 3) := by decide +kernel
theorem dX8_isBlank_20 : decode cX8_isBlank 20 = .ok (.iconst 1, 1) := by decide +kernel
theorem dX8_isBlank_21 : decode cX8_isBlank 21 = .ok (.goto 4, 3) := by decide +kernel
theorem dX8_isBlank_24 : decode cX8_isBlank 24 = .ok (.iconst 0, 1) := by decide +kernel
theorem dX8_isBlank_25 : decode cX8_isBlank 25 = .ok (.ireturn, 1) := by decide +kernel
section T
variable {G : GT} {d : Nat} {S : List Value} {h : AH} {P : OC → AH → Prop} {x0 x1 x2 x3 x4 x5 x6 x7 x8 x9 x10 x11 x12 x13 x14 x15 : Option Value}
theorem tX8_isBlank_0 {k : Nat} (r : RQ G mX8_isBlank d 1 [some (.ref k), x1] (.ref k :: S) (h) P) : RQ G mX8_isBlank d 0 [some (.ref k), x1] (S) h P := q_aload_n (M := mX8_isBlank) (pc := 0) (r0 := some k) dX8_isBlank_0 rfl rfl r
theorem tX8_isBlank_1 {v : Int32} (r : RQ G mX8_isBlank d 2 [x0, some (.int v)] (.int v :: S) (h) P) : RQ G mX8_isBlank d 1 [x0, some (.int v)] (S) h P := q_iload_n (M := mX8_isBlank) (pc := 1) dX8_isBlank_1 rfl rfl r
theorem tX8_isBlank_2 {b d2 : Nat} {vs : List Value} {a0 : Int32} {Q : Int32 → AH → Prop} (hd : d2 + 1 ≤ d) (ha : At h b (.inr (6, vs))) (call : RQ G mX8_at d2 0 [some (.ref b), some (.int a0)] [] h (Ri Q)) (k : ∀ x h1, Q x h1 → RQ G mX8_isBlank d 5 [x0, x1] (.int x :: S) h1 P) (hst : (S.map fun v => v.category).sum ≤ 8 := by exact Nat.le_of_ble_eq_true rfl)  : RQ G mX8_isBlank d 2 [x0, x1] (.int a0 :: .ref b :: S) h P := q_callV (M := mX8_isBlank) (pc := 2) (M2 := mX8_at) (As := [.int a0]) (n := 1) dX8_isBlank_2 rfl ⟨by decide, by decide, by decide, rfl⟩ rfl w957 w958 w959 w42 w960 (show CL[6]? = some (RX8, TX8, 2) from rfl) hd (by decide) (Nat.le_of_ble_eq_true rfl) rfl ha hst call (callk_i k)
theorem tX8_isBlank_5 (r : RQ G mX8_isBlank d 7 [x0, x1] (.int (nI 32) :: S) (h) P) : RQ G mX8_isBlank d 5 [x0, x1] (S) h P := q_bipush (M := mX8_isBlank) (pc := 5) dX8_isBlank_5 (by decide) r
theorem tX8_isBlank_7 {x y : Int32} (kt : x = y → RQ G mX8_isBlank d 20 [x0, x1] S h P) (kf : ¬ x = y → RQ G mX8_isBlank d 10 [x0, x1] S h P) : RQ G mX8_isBlank d 7 [x0, x1] (.int y :: .int x :: S) h P := q_icmp_eq (M := mX8_isBlank) (pc := 7) dX8_isBlank_7 (by decide) kt kf
theorem tX8_isBlank_10 {k : Nat} (r : RQ G mX8_isBlank d 11 [some (.ref k), x1] (.ref k :: S) (h) P) : RQ G mX8_isBlank d 10 [some (.ref k), x1] (S) h P := q_aload_n (M := mX8_isBlank) (pc := 10) (r0 := some k) dX8_isBlank_10 rfl rfl r
theorem tX8_isBlank_11 {v : Int32} (r : RQ G mX8_isBlank d 12 [x0, some (.int v)] (.int v :: S) (h) P) : RQ G mX8_isBlank d 11 [x0, some (.int v)] (S) h P := q_iload_n (M := mX8_isBlank) (pc := 11) dX8_isBlank_11 rfl rfl r
theorem tX8_isBlank_12 {b d2 : Nat} {vs : List Value} {a0 : Int32} {Q : Int32 → AH → Prop} (hd : d2 + 1 ≤ d) (ha : At h b (.inr (6, vs))) (call : RQ G mX8_at d2 0 [some (.ref b), some (.int a0)] [] h (Ri Q)) (k : ∀ x h1, Q x h1 → RQ G mX8_isBlank d 15 [x0, x1] (.int x :: S) h1 P) (hst : (S.map fun v => v.category).sum ≤ 8 := by exact Nat.le_of_ble_eq_true rfl)  : RQ G mX8_isBlank d 12 [x0, x1] (.int a0 :: .ref b :: S) h P := q_callV (M := mX8_isBlank) (pc := 12) (M2 := mX8_at) (As := [.int a0]) (n := 1) dX8_isBlank_12 rfl ⟨by decide, by decide, by decide, rfl⟩ rfl w957 w958 w959 w42 w960 (show CL[6]? = some (RX8, TX8, 2) from rfl) hd (by decide) (Nat.le_of_ble_eq_true rfl) rfl ha hst call (callk_i k)
theorem tX8_isBlank_15 (r : RQ G mX8_isBlank d 17 [x0, x1] (.int (nI 10) :: S) (h) P) : RQ G mX8_isBlank d 15 [x0, x1] (S) h P := q_bipush (M := mX8_isBlank) (pc := 15) dX8_isBlank_15 (by decide) r
theorem tX8_isBlank_17 {x y : Int32} (kt : ¬ x = y → RQ G mX8_isBlank d 24 [x0, x1] S h P) (kf : x = y → RQ G mX8_isBlank d 20 [x0, x1] S h P) : RQ G mX8_isBlank d 17 [x0, x1] (.int y :: .int x :: S) h P := q_icmp_ne (M := mX8_isBlank) (pc := 17) dX8_isBlank_17 (by decide) kt kf
theorem tX8_isBlank_20 (r : RQ G mX8_isBlank d 21 [x0, x1] (.int (nI 1) :: S) (h) P) : RQ G mX8_isBlank d 20 [x0, x1] (S) h P := q_iconst (M := mX8_isBlank) (pc := 20) dX8_isBlank_20 (by decide) r
theorem tX8_isBlank_21 (r : RQ G mX8_isBlank d 25 [x0, x1] S h P) : RQ G mX8_isBlank d 21 [x0, x1] (S) h P := q_goto (M := mX8_isBlank) (pc := 21) dX8_isBlank_21 (by decide) r
theorem tX8_isBlank_24 (r : RQ G mX8_isBlank d 25 [x0, x1] (.int (nI 0) :: S) (h) P) : RQ G mX8_isBlank d 24 [x0, x1] (S) h P := q_iconst (M := mX8_isBlank) (pc := 24) dX8_isBlank_24 (by decide) r
theorem tX8_isBlank_25 {x : Int32} (hb : x = nI 0 ∨ x = nI 1) (hP : P (.inl (some (.int x))) h) : RQ G mX8_isBlank d 25 [x0, x1] ([.int x]) h P := q_ireturn (M := mX8_isBlank) (pc := 25) (ty := .boolean) dX8_isBlank_25 rfl (nar_bool hb) hP
end T
theorem dX8_reads_0 : decode cX8_reads 0 = .ok (.aload_n 1, 1) := by decide +kernel
theorem dX8_reads_1 : decode cX8_reads 1 = .ok (.invokevirtual 23, 3) := by decide +kernel
theorem dX8_reads_4 : decode cX8_reads 4 = .ok (.iload_n 3, 1) := by decide +kernel
theorem dX8_reads_5 : decode cX8_reads 5 = .ok (.iload_n 2, 1) := by decide +kernel
theorem dX8_reads_6 : decode cX8_reads 6 = .ok (.isub, 1) := by decide +kernel
theorem dX8_reads_7 : decode cX8_reads 7 = .ok (.if_icmp .eq 5, 3) := by decide +kernel
theorem dX8_reads_10 : decode cX8_reads 10 = .ok (.iconst 0, 1) := by decide +kernel
theorem dX8_reads_11 : decode cX8_reads 11 = .ok (.ireturn, 1) := by decide +kernel
theorem dX8_reads_12 : decode cX8_reads 12 = .ok (.iconst 0, 1) := by decide +kernel
theorem dX8_reads_13 : decode cX8_reads 13 = .ok (.istore 4, 2) := by decide +kernel
theorem dX8_reads_15 : decode cX8_reads 15 = .ok (.iload 4, 2) := by decide +kernel
theorem dX8_reads_17 : decode cX8_reads 17 = .ok (.aload_n 1, 1) := by decide +kernel
theorem dX8_reads_18 : decode cX8_reads 18 = .ok (.invokevirtual 23, 3) := by decide +kernel
theorem dX8_reads_21 : decode cX8_reads 21 = .ok (.if_icmp .ge 28, 3) := by decide +kernel
theorem dX8_reads_24 : decode cX8_reads 24 = .ok (.aload_n 0, 1) := by decide +kernel
theorem dX8_reads_25 : decode cX8_reads 25 = .ok (.iload_n 2, 1) := by decide +kernel
theorem dX8_reads_26 : decode cX8_reads 26 = .ok (.iload 4, 2) := by decide +kernel
theorem dX8_reads_28 : decode cX8_reads 28 = .ok (.iadd, 1) := by decide +kernel
theorem dX8_reads_29 : decode cX8_reads 29 = .ok (.invokevirtual 19, 3) := by decide +kernel
theorem dX8_reads_32 : decode cX8_reads 32 = .ok (.aload_n 1, 1) := by decide +kernel
theorem dX8_reads_33 : decode cX8_reads 33 = .ok (.iload 4, 2) := by decide +kernel
theorem dX8_reads_35 : decode cX8_reads 35 = .ok (.invokevirtual 28, 3) := by decide +kernel
theorem dX8_reads_38 : decode cX8_reads 38 = .ok (.if_icmp .eq 5, 3) := by decide +kernel
theorem dX8_reads_41 : decode cX8_reads 41 = .ok (.iconst 0, 1) := by decide +kernel
theorem dX8_reads_42 : decode cX8_reads 42 = .ok (.ireturn, 1) := by decide +kernel
theorem dX8_reads_43 : decode cX8_reads 43 = .ok (.iinc 4 1, 3) := by decide +kernel
theorem dX8_reads_46 : decode cX8_reads 46 = .ok (.goto (-31), 3) := by decide +kernel
theorem dX8_reads_49 : decode cX8_reads 49 = .ok (.iconst 1, 1) := by decide +kernel
theorem dX8_reads_50 : decode cX8_reads 50 = .ok (.ireturn, 1) := by decide +kernel
section T
variable {G : GT} {d : Nat} {S : List Value} {h : AH} {P : OC → AH → Prop} {x0 x1 x2 x3 x4 x5 x6 x7 x8 x9 x10 x11 x12 x13 x14 x15 : Option Value}
theorem tX8_reads_0 {k : Nat} (r : RQ G mX8_reads d 1 [x0, some (.ref k), x2, x3, x4] (.ref k :: S) (h) P) : RQ G mX8_reads d 0 [x0, some (.ref k), x2, x3, x4] (S) h P := q_aload_n (M := mX8_reads) (pc := 0) (r0 := some k) dX8_reads_0 rfl rfl r
theorem tX8_reads_4 {v : Int32} (r : RQ G mX8_reads d 5 [x0, x1, x2, some (.int v), x4] (.int v :: S) (h) P) : RQ G mX8_reads d 4 [x0, x1, x2, some (.int v), x4] (S) h P := q_iload_n (M := mX8_reads) (pc := 4) dX8_reads_4 rfl rfl r
theorem tX8_reads_5 {v : Int32} (r : RQ G mX8_reads d 6 [x0, x1, some (.int v), x3, x4] (.int v :: S) (h) P) : RQ G mX8_reads d 5 [x0, x1, some (.int v), x3, x4] (S) h P := q_iload_n (M := mX8_reads) (pc := 5) dX8_reads_5 rfl rfl r
theorem tX8_reads_6 {x y : Int32} (r : RQ G mX8_reads d 7 [x0, x1, x2, x3, x4] (.int (x - y) :: S) (h) P) : RQ G mX8_reads d 6 [x0, x1, x2, x3, x4] (.int y :: .int x :: S) h P := q_isub (M := mX8_reads) (pc := 6) dX8_reads_6 r
theorem tX8_reads_7 {x y : Int32} (kt : x = y → RQ G mX8_reads d 12 [x0, x1, x2, x3, x4] S h P) (kf : ¬ x = y → RQ G mX8_reads d 10 [x0, x1, x2, x3, x4] S h P) : RQ G mX8_reads d 7 [x0, x1, x2, x3, x4] (.int y :: .int x :: S) h P := q_icmp_eq (M := mX8_reads) (pc := 7) dX8_reads_7 (by decide) kt kf
theorem tX8_reads_10 (r : RQ G mX8_reads d 11 [x0, x1, x2, x3, x4] (.int (nI 0) :: S) (h) P) : RQ G mX8_reads d 10 [x0, x1, x2, x3, x4] (S) h P := q_iconst (M := mX8_reads) (pc := 10) dX8_reads_10 (by decide) r
theorem tX8_reads_11 {x : Int32} (hb : x = nI 0 ∨ x = nI 1) (hP : P (.inl (some (.int x))) h) : RQ G mX8_reads d 11 [x0, x1, x2, x3, x4] ([.int x]) h P := q_ireturn (M := mX8_reads) (pc := 11) (ty := .boolean) dX8_reads_11 rfl (nar_bool hb) hP
theorem tX8_reads_12 (r : RQ G mX8_reads d 13 [x0, x1, x2, x3, x4] (.int (nI 0) :: S) (h) P) : RQ G mX8_reads d 12 [x0, x1, x2, x3, x4] (S) h P := q_iconst (M := mX8_reads) (pc := 12) dX8_reads_12 (by decide) r
theorem tX8_reads_13 {v : Int32} (ho : ok1 x3 = true := by rfl) (r : RQ G mX8_reads d 15 [x0, x1, x2, x3, some (.int v)] (S) (h) P) : RQ G mX8_reads d 13 [x0, x1, x2, x3, x4] (.int v :: S) h P := q_istore (M := mX8_reads) (pc := 13) dX8_reads_13 (Nat.le_of_ble_eq_true rfl) ho r
theorem tX8_reads_15 {v : Int32} (r : RQ G mX8_reads d 17 [x0, x1, x2, x3, some (.int v)] (.int v :: S) (h) P) : RQ G mX8_reads d 15 [x0, x1, x2, x3, some (.int v)] (S) h P := q_iload (M := mX8_reads) (pc := 15) dX8_reads_15 rfl r
theorem tX8_reads_17 {k : Nat} (r : RQ G mX8_reads d 18 [x0, some (.ref k), x2, x3, x4] (.ref k :: S) (h) P) : RQ G mX8_reads d 17 [x0, some (.ref k), x2, x3, x4] (S) h P := q_aload_n (M := mX8_reads) (pc := 17) (r0 := some k) dX8_reads_17 rfl rfl r
theorem tX8_reads_21 {x y : Int32} (kt : y ≤ x → RQ G mX8_reads d 49 [x0, x1, x2, x3, x4] S h P) (kf : ¬ y ≤ x → RQ G mX8_reads d 24 [x0, x1, x2, x3, x4] S h P) : RQ G mX8_reads d 21 [x0, x1, x2, x3, x4] (.int y :: .int x :: S) h P := q_icmp_ge (M := mX8_reads) (pc := 21) dX8_reads_21 (by decide) kt kf
theorem tX8_reads_24 {k : Nat} (r : RQ G mX8_reads d 25 [some (.ref k), x1, x2, x3, x4] (.ref k :: S) (h) P) : RQ G mX8_reads d 24 [some (.ref k), x1, x2, x3, x4] (S) h P := q_aload_n (M := mX8_reads) (pc := 24) (r0 := some k) dX8_reads_24 rfl rfl r
theorem tX8_reads_25 {v : Int32} (r : RQ G mX8_reads d 26 [x0, x1, some (.int v), x3, x4] (.int v :: S) (h) P) : RQ G mX8_reads d 25 [x0, x1, some (.int v), x3, x4] (S) h P := q_iload_n (M := mX8_reads) (pc := 25) dX8_reads_25 rfl rfl r
theorem tX8_reads_26 {v : Int32} (r : RQ G mX8_reads d 28 [x0, x1, x2, x3, some (.int v)] (.int v :: S) (h) P) : RQ G mX8_reads d 26 [x0, x1, x2, x3, some (.int v)] (S) h P := q_iload (M := mX8_reads) (pc := 26) dX8_reads_26 rfl r
theorem tX8_reads_28 {x y : Int32} (r : RQ G mX8_reads d 29 [x0, x1, x2, x3, x4] (.int (x + y) :: S) (h) P) : RQ G mX8_reads d 28 [x0, x1, x2, x3, x4] (.int y :: .int x :: S) h P := q_iadd (M := mX8_reads) (pc := 28) dX8_reads_28 r
theorem tX8_reads_29 {b d2 : Nat} {vs : List Value} {a0 : Int32} {Q : Int32 → AH → Prop} (hd : d2 + 1 ≤ d) (ha : At h b (.inr (6, vs))) (call : RQ G mX8_at d2 0 [some (.ref b), some (.int a0)] [] h (Ri Q)) (k : ∀ x h1, Q x h1 → RQ G mX8_reads d 32 [x0, x1, x2, x3, x4] (.int x :: S) h1 P) (hst : (S.map fun v => v.category).sum ≤ 8 := by exact Nat.le_of_ble_eq_true rfl)  : RQ G mX8_reads d 29 [x0, x1, x2, x3, x4] (.int a0 :: .ref b :: S) h P := q_callV (M := mX8_reads) (pc := 29) (M2 := mX8_at) (As := [.int a0]) (n := 1) dX8_reads_29 rfl ⟨by decide, by decide, by decide, rfl⟩ rfl w957 w958 w959 w42 w960 (show CL[6]? = some (RX8, TX8, 2) from rfl) hd (by decide) (Nat.le_of_ble_eq_true rfl) rfl ha hst call (callk_i k)
theorem tX8_reads_32 {k : Nat} (r : RQ G mX8_reads d 33 [x0, some (.ref k), x2, x3, x4] (.ref k :: S) (h) P) : RQ G mX8_reads d 32 [x0, some (.ref k), x2, x3, x4] (S) h P := q_aload_n (M := mX8_reads) (pc := 32) (r0 := some k) dX8_reads_32 rfl rfl r
theorem tX8_reads_33 {v : Int32} (r : RQ G mX8_reads d 35 [x0, x1, x2, x3, some (.int v)] (.int v :: S) (h) P) : RQ G mX8_reads d 33 [x0, x1, x2, x3, some (.int v)] (S) h P := q_iload (M := mX8_reads) (pc := 33) dX8_reads_33 rfl r
theorem tX8_reads_38 {x y : Int32} (kt : x = y → RQ G mX8_reads d 43 [x0, x1, x2, x3, x4] S h P) (kf : ¬ x = y → RQ G mX8_reads d 41 [x0, x1, x2, x3, x4] S h P) : RQ G mX8_reads d 38 [x0, x1, x2, x3, x4] (.int y :: .int x :: S) h P := q_icmp_eq (M := mX8_reads) (pc := 38) dX8_reads_38 (by decide) kt kf
theorem tX8_reads_41 (r : RQ G mX8_reads d 42 [x0, x1, x2, x3, x4] (.int (nI 0) :: S) (h) P) : RQ G mX8_reads d 41 [x0, x1, x2, x3, x4] (S) h P := q_iconst (M := mX8_reads) (pc := 41) dX8_reads_41 (by decide) r
theorem tX8_reads_42 {x : Int32} (hb : x = nI 0 ∨ x = nI 1) (hP : P (.inl (some (.int x))) h) : RQ G mX8_reads d 42 [x0, x1, x2, x3, x4] ([.int x]) h P := q_ireturn (M := mX8_reads) (pc := 42) (ty := .boolean) dX8_reads_42 rfl (nar_bool hb) hP
theorem tX8_reads_43 {v : Int32} (ho : ok1 x3 = true := by rfl) (r : RQ G mX8_reads d 46 [x0, x1, x2, x3, some (.int (v + (nI 1)))] (S) (h) P) : RQ G mX8_reads d 43 [x0, x1, x2, x3, some (.int v)] (S) h P := q_iinc (M := mX8_reads) (pc := 43) dX8_reads_43 rfl (congrArg (v + ·) (show Int32.ofInt (1) = (nI 1) by decide)) (Nat.le_of_ble_eq_true rfl) ho r
theorem tX8_reads_46 (r : RQ G mX8_reads d 15 [x0, x1, x2, x3, x4] S h P) : RQ G mX8_reads d 46 [x0, x1, x2, x3, x4] (S) h P := q_goto (M := mX8_reads) (pc := 46) dX8_reads_46 (by decide) r
theorem tX8_reads_49 (r : RQ G mX8_reads d 50 [x0, x1, x2, x3, x4] (.int (nI 1) :: S) (h) P) : RQ G mX8_reads d 49 [x0, x1, x2, x3, x4] (S) h P := q_iconst (M := mX8_reads) (pc := 49) dX8_reads_49 (by decide) r
theorem tX8_reads_50 {x : Int32} (hb : x = nI 0 ∨ x = nI 1) (hP : P (.inl (some (.int x))) h) : RQ G mX8_reads d 50 [x0, x1, x2, x3, x4] ([.int x]) h P := q_ireturn (M := mX8_reads) (pc := 50) (ty := .boolean) dX8_reads_50 rfl (nar_bool hb) hP
end T
