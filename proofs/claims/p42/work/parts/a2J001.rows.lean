theorem dJ5_init_d00df_0 : decode cJ5_init_d00df 0 = .ok (.aload_n 0, 1) := by decide +kernel
theorem dJ5_init_d00df_1 : decode cJ5_init_d00df 1 = .ok (.invokespecial 3, 3) := by decide +kernel
theorem dJ5_init_d00df_4 : decode cJ5_init_d00df 4 = .ok (.getstatic 18, 3) := by decide +kernel
theorem dJ5_init_d00df_7 : decode cJ5_init_d00df 7 = .ok (.ifCond .eq 18, 3) := by decide +kernel
theorem dJ5_init_d00df_10 : decode cJ5_init_d00df 10 = .ok (.aload_n 0, 1) := by decide +kernel
theorem dJ5_init_d00df_11 : decode cJ5_init_d00df 11 = .ok (.iload_n 1, 1) := by decide +kernel
theorem dJ5_init_d00df_12 : decode cJ5_init_d00df 12 = .ok (.newarray .byte, 2) := by decide +kernel
theorem dJ5_init_d00df_14 : decode cJ5_init_d00df 14 = .ok (.putfield 15, 3) := by decide +kernel
theorem dJ5_init_d00df_17 : decode cJ5_init_d00df 17 = .ok (.aload_n 0, 1) := by decide +kernel
theorem dJ5_init_d00df_18 : decode cJ5_init_d00df 18 = .ok (.iconst 0, 1) := by decide +kernel
theorem dJ5_init_d00df_19 : decode cJ5_init_d00df 19 = .ok (.putfield 22, 3) := by decide +kernel
theorem dJ5_init_d00df_22 : decode cJ5_init_d00df 22 = .ok (.goto 16, 3) := by decide +kernel
theorem dJ5_init_d00df_25 : decode cJ5_init_d00df 25 = .ok (.aload_n 0, 1) := by decide +kernel
theorem dJ5_init_d00df_26 : decode cJ5_init_d00df 26 = .ok (.iload_n 1, 1) := by decide +kernel
theorem dJ5_init_d00df_27 : decode cJ5_init_d00df 27 = .ok (.invokestatic 26, 3) := by decide +kernel
theorem dJ5_init_d00df_30 : decode cJ5_init_d00df 30 = .ok (.putfield 15, 3) := by decide +kernel
theorem dJ5_init_d00df_33 : decode cJ5_init_d00df 33 = .ok (.aload_n 0, 1) := by decide +kernel
theorem dJ5_init_d00df_34 : decode cJ5_init_d00df 34 = .ok (.iconst 1, 1) := by decide +kernel
theorem dJ5_init_d00df_35 : decode cJ5_init_d00df 35 = .ok (.putfield 22, 3) := by decide +kernel
theorem dJ5_init_d00df_38 : decode cJ5_init_d00df 38 = .ok (.return_, 1) := by decide +kernel
section T
variable {G : GT} {d : Nat} {S : List Value} {h : AH} {P : OC → AH → Prop} {x0 x1 x2 x3 x4 x5 x6 x7 x8 x9 x10 x11 x12 x13 x14 x15 x16 x17 x18 x19 : Option Value}
theorem tJ5_init_d00df_0 {k : Nat} (r : RQ G mJ5_init_d00df d 1 [some (.ref k), x1] (.ref k :: S) (h) P) : RQ G mJ5_init_d00df d 0 [some (.ref k), x1] (S) h P := q_aload_n (M := mJ5_init_d00df) (pc := 0) (r0 := some k) dJ5_init_d00df_0 rfl rfl r
theorem tJ5_init_d00df_0q {r0 : Option Nat} (r : RQ G mJ5_init_d00df d 1 [some (va_rf r0), x1] (va_rf r0 :: S) (h) P) : RQ G mJ5_init_d00df d 0 [some (va_rf r0), x1] (S) h P := q_aload_n (M := mJ5_init_d00df) (pc := 0) dJ5_init_d00df_0 rfl rfl r
theorem tJ5_init_d00df_1 {b : Nat} (hd : 1 ≤ d) (hst : (S.map fun v => v.category).sum ≤ 8 := by exact Nat.le_of_ble_eq_true rfl) (r : RQ G mJ5_init_d00df d 4 [x0, x1] (S) (h) P) : RQ G mJ5_init_d00df d 1 [x0, x1] (.ref b :: S) h P := q_objInit (M := mJ5_init_d00df) (pc := 1) dJ5_init_d00df_1 w1386 w83 w84 hd hst r
theorem tJ5_init_d00df_4 (r : RQ G mJ5_init_d00df d 7 [x0, x1] (.int 1 :: S) (h) P) : RQ G mJ5_init_d00df d 4 [x0, x1] (S) h P := q_gcs (M := mJ5_init_d00df) (pc := 4) dJ5_init_d00df_4 w1317 r
theorem tJ5_init_d00df_7 {x : Int32} (kt : x = 0 → RQ G mJ5_init_d00df d 25 [x0, x1] S h P) (kf : ¬ x = 0 → RQ G mJ5_init_d00df d 10 [x0, x1] S h P) : RQ G mJ5_init_d00df d 7 [x0, x1] (.int x :: S) h P := q_if_eq (M := mJ5_init_d00df) (pc := 7) dJ5_init_d00df_7 (by decide) kt kf
theorem tJ5_init_d00df_10 {k : Nat} (r : RQ G mJ5_init_d00df d 11 [some (.ref k), x1] (.ref k :: S) (h) P) : RQ G mJ5_init_d00df d 10 [some (.ref k), x1] (S) h P := q_aload_n (M := mJ5_init_d00df) (pc := 10) (r0 := some k) dJ5_init_d00df_10 rfl rfl r
theorem tJ5_init_d00df_10q {r0 : Option Nat} (r : RQ G mJ5_init_d00df d 11 [some (va_rf r0), x1] (va_rf r0 :: S) (h) P) : RQ G mJ5_init_d00df d 10 [some (va_rf r0), x1] (S) h P := q_aload_n (M := mJ5_init_d00df) (pc := 10) dJ5_init_d00df_10 rfl rfl r
theorem tJ5_init_d00df_11 {v : Int32} (r : RQ G mJ5_init_d00df d 12 [x0, some (.int v)] (.int v :: S) (h) P) : RQ G mJ5_init_d00df d 11 [x0, some (.int v)] (S) h P := q_iload_n (M := mJ5_init_d00df) (pc := 11) dJ5_init_d00df_11 rfl rfl r
theorem tJ5_init_d00df_12 {n : Nat} {x : Int32} (hx : x = nI n) (hn : n < 60000000) (r : RQ G mJ5_init_d00df d 14 [x0, x1] (.ref h.1 :: S) (hnew h n (.inl (1, n, .inl (fun _ => 0)))) P) : RQ G mJ5_init_d00df d 12 [x0, x1] (.int x :: S) h P := q_newaB (M := mJ5_init_d00df) (pc := 12) dJ5_init_d00df_12 w100 hx hn r
theorem tJ5_init_d00df_14 {i : Nat} {vs : List Value} {v : Nat} (ha : At h i (.inr (17, vs))) (hlen : vs.length = 4) (r : RQ G mJ5_init_d00df d 17 [x0, x1] (S) (hset h i (.inr (17, vs.set 0 (.ref v)))) P) : RQ G mJ5_init_d00df d 14 [x0, x1] (.ref v :: .ref i :: S) h P := qq_put (M := mJ5_init_d00df) (pc := 14) (kf := 0) (O := RJ5) dJ5_init_d00df_14 (show CL[17]? = some (RJ4, TJ4, 4) from rfl) inAJ4 tyJ4_ok nmJ4 (by decide) rfl w1387 rfl (tyJ4_ok 0 (by decide)) (nfit_arr _ v) (by rw [hlen]; decide) ha r
theorem tJ5_init_d00df_17 {k : Nat} (r : RQ G mJ5_init_d00df d 18 [some (.ref k), x1] (.ref k :: S) (h) P) : RQ G mJ5_init_d00df d 17 [some (.ref k), x1] (S) h P := q_aload_n (M := mJ5_init_d00df) (pc := 17) (r0 := some k) dJ5_init_d00df_17 rfl rfl r
theorem tJ5_init_d00df_17q {r0 : Option Nat} (r : RQ G mJ5_init_d00df d 18 [some (va_rf r0), x1] (va_rf r0 :: S) (h) P) : RQ G mJ5_init_d00df d 17 [some (va_rf r0), x1] (S) h P := q_aload_n (M := mJ5_init_d00df) (pc := 17) dJ5_init_d00df_17 rfl rfl r
theorem tJ5_init_d00df_18 (r : RQ G mJ5_init_d00df d 19 [x0, x1] (.int (nI 0) :: S) (h) P) : RQ G mJ5_init_d00df d 18 [x0, x1] (S) h P := q_iconst (M := mJ5_init_d00df) (pc := 18) dJ5_init_d00df_18 (by decide) r
theorem tJ5_init_d00df_19 {i : Nat} {vs : List Value} {v : Int32} (ha : At h i (.inr (17, vs))) (hlen : vs.length = 4) (hb : nfit .byte (.int v) = true) (r : RQ G mJ5_init_d00df d 22 [x0, x1] (S) (hset h i (.inr (17, vs.set 1 (.int v)))) P) : RQ G mJ5_init_d00df d 19 [x0, x1] (.int v :: .ref i :: S) h P := qq_put (M := mJ5_init_d00df) (pc := 19) (kf := 1) (O := RJ5) dJ5_init_d00df_19 (show CL[17]? = some (RJ4, TJ4, 4) from rfl) inAJ4 tyJ4_ok nmJ4 (by decide) rfl w1388 rfl (tyJ4_ok 1 (by decide)) (hb) (by rw [hlen]; decide) ha r
theorem tJ5_init_d00df_22 (r : RQ G mJ5_init_d00df d 38 [x0, x1] S h P) : RQ G mJ5_init_d00df d 22 [x0, x1] (S) h P := q_goto (M := mJ5_init_d00df) (pc := 22) dJ5_init_d00df_22 (by decide) r
theorem tJ5_init_d00df_25 {k : Nat} (r : RQ G mJ5_init_d00df d 26 [some (.ref k), x1] (.ref k :: S) (h) P) : RQ G mJ5_init_d00df d 25 [some (.ref k), x1] (S) h P := q_aload_n (M := mJ5_init_d00df) (pc := 25) (r0 := some k) dJ5_init_d00df_25 rfl rfl r
theorem tJ5_init_d00df_25q {r0 : Option Nat} (r : RQ G mJ5_init_d00df d 26 [some (va_rf r0), x1] (va_rf r0 :: S) (h) P) : RQ G mJ5_init_d00df d 25 [some (va_rf r0), x1] (S) h P := q_aload_n (M := mJ5_init_d00df) (pc := 25) dJ5_init_d00df_25 rfl rfl r
theorem tJ5_init_d00df_26 {v : Int32} (r : RQ G mJ5_init_d00df d 27 [x0, some (.int v)] (.int v :: S) (h) P) : RQ G mJ5_init_d00df d 26 [x0, some (.int v)] (S) h P := q_iload_n (M := mJ5_init_d00df) (pc := 26) dJ5_init_d00df_26 rfl rfl r
theorem tJ5_init_d00df_30 {i : Nat} {vs : List Value} {v : Nat} (ha : At h i (.inr (17, vs))) (hlen : vs.length = 4) (r : RQ G mJ5_init_d00df d 33 [x0, x1] (S) (hset h i (.inr (17, vs.set 0 (.ref v)))) P) : RQ G mJ5_init_d00df d 30 [x0, x1] (.ref v :: .ref i :: S) h P := qq_put (M := mJ5_init_d00df) (pc := 30) (kf := 0) (O := RJ5) dJ5_init_d00df_30 (show CL[17]? = some (RJ4, TJ4, 4) from rfl) inAJ4 tyJ4_ok nmJ4 (by decide) rfl w1387 rfl (tyJ4_ok 0 (by decide)) (nfit_arr _ v) (by rw [hlen]; decide) ha r
theorem tJ5_init_d00df_33 {k : Nat} (r : RQ G mJ5_init_d00df d 34 [some (.ref k), x1] (.ref k :: S) (h) P) : RQ G mJ5_init_d00df d 33 [some (.ref k), x1] (S) h P := q_aload_n (M := mJ5_init_d00df) (pc := 33) (r0 := some k) dJ5_init_d00df_33 rfl rfl r
theorem tJ5_init_d00df_33q {r0 : Option Nat} (r : RQ G mJ5_init_d00df d 34 [some (va_rf r0), x1] (va_rf r0 :: S) (h) P) : RQ G mJ5_init_d00df d 33 [some (va_rf r0), x1] (S) h P := q_aload_n (M := mJ5_init_d00df) (pc := 33) dJ5_init_d00df_33 rfl rfl r
theorem tJ5_init_d00df_34 (r : RQ G mJ5_init_d00df d 35 [x0, x1] (.int (nI 1) :: S) (h) P) : RQ G mJ5_init_d00df d 34 [x0, x1] (S) h P := q_iconst (M := mJ5_init_d00df) (pc := 34) dJ5_init_d00df_34 (by decide) r
theorem tJ5_init_d00df_35 {i : Nat} {vs : List Value} {v : Int32} (ha : At h i (.inr (17, vs))) (hlen : vs.length = 4) (hb : nfit .byte (.int v) = true) (r : RQ G mJ5_init_d00df d 38 [x0, x1] (S) (hset h i (.inr (17, vs.set 1 (.int v)))) P) : RQ G mJ5_init_d00df d 35 [x0, x1] (.int v :: .ref i :: S) h P := qq_put (M := mJ5_init_d00df) (pc := 35) (kf := 1) (O := RJ5) dJ5_init_d00df_35 (show CL[17]? = some (RJ4, TJ4, 4) from rfl) inAJ4 tyJ4_ok nmJ4 (by decide) rfl w1388 rfl (tyJ4_ok 1 (by decide)) (hb) (by rw [hlen]; decide) ha r
theorem tJ5_init_d00df_38 (hP : P (.inl none) h) : RQ G mJ5_init_d00df d 38 [x0, x1] ([]) h P := q_return (M := mJ5_init_d00df) (pc := 38) dJ5_init_d00df_38 rfl hP
end T
