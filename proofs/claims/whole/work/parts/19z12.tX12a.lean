theorem dX12_init_0 : decode cX12_init 0 = .ok (.aload_n 0, 1) := by decide +kernel
theorem dX12_init_1 : decode cX12_init 1 = .ok (.invokespecial 3, 3) := by decide +kernel
theorem dX12_init_4 : decode cX12_init 4 = .ok (.aload_n 0, 1) := by decide +kernel
theorem dX12_init_5 : decode cX12_init 5 = .ok (.sipush 1600, 3) := by decide +kernel
theorem dX12_init_8 : decode cX12_init 8 = .ok (.newarray .int, 2) := by decide +kernel
theorem dX12_init_10 : decode cX12_init 10 = .ok (.putfield 9, 3) := by decide +kernel
theorem dX12_init_13 : decode cX12_init 13 = .ok (.aload_n 0, 1) := by decide +kernel
theorem dX12_init_14 : decode cX12_init 14 = .ok (.iconst (-1), 1) := by decide +kernel
theorem dX12_init_15 : decode cX12_init 15 = .ok (.putfield 13, 3) := by decide +kernel
theorem dX12_init_18 : decode cX12_init 18 = .ok (.aload_n 0, 1) := by decide +kernel
theorem dX12_init_19 : decode cX12_init 19 = .ok (.sipush 402, 3) := by decide +kernel
theorem dX12_init_22 : decode cX12_init 22 = .ok (.newarray .int, 2) := by decide +kernel
theorem dX12_init_24 : decode cX12_init 24 = .ok (.putfield 17, 3) := by decide +kernel
theorem dX12_init_27 : decode cX12_init 27 = .ok (.aload_n 0, 1) := by decide +kernel
theorem dX12_init_28 : decode cX12_init 28 = .ok (.sipush 402, 3) := by decide +kernel
theorem dX12_init_31 : decode cX12_init 31 = .ok (.newarray .int, 2) := by decide +kernel
theorem dX12_init_33 : decode cX12_init 33 = .ok (.putfield 20, 3) := by decide +kernel
theorem dX12_init_36 : decode cX12_init 36 = .ok (.aload_n 0, 1) := by decide +kernel
theorem dX12_init_37 : decode cX12_init 37 = .ok (.sipush 402, 3) := by decide +kernel
theorem dX12_init_40 : decode cX12_init 40 = .ok (.newarray .int, 2) := by decide +kernel
theorem dX12_init_42 : decode cX12_init 42 = .ok (.putfield 23, 3) := by decide +kernel
theorem dX12_init_45 : decode cX12_init 45 = .ok (.aload_n 0, 1) := by decide +kernel
theorem dX12_init_46 : decode cX12_init 46 = .ok (.sipush 402, 3) := by decide +kernel
theorem dX12_init_49 : decode cX12_init 49 = .ok (.newarray .int, 2) := by decide +kernel
theorem dX12_init_51 : decode cX12_init 51 = .ok (.putfield 26, 3) := by decide +kernel
theorem dX12_init_54 : decode cX12_init 54 = .ok (.aload_n 0, 1) := by decide +kernel
theorem dX12_init_55 : decode cX12_init 55 = .ok (.bipush 20, 2) := by decide +kernel
theorem dX12_init_57 : decode cX12_init 57 = .ok (.newarray .int, 2) := by decide +kernel
theorem dX12_init_59 : decode cX12_init 59 = .ok (.putfield 29, 3) := by decide +kernel
theorem dX12_init_62 : decode cX12_init 62 = .ok (.aload_n 0, 1) := by decide +kernel
theorem dX12_init_63 : decode cX12_init 63 = .ok (.bipush 20, 2) := by decide +kernel
theorem dX12_init_65 : decode cX12_init 65 = .ok (.newarray .int, 2) := by decide +kernel
theorem dX12_init_67 : decode cX12_init 67 = .ok (.putfield 32, 3) := by decide +kernel
theorem dX12_init_70 : decode cX12_init 70 = .ok (.aload_n 0, 1) := by decide +kernel
theorem dX12_init_71 : decode cX12_init 71 = .ok (.bipush 20, 2) := by decide +kernel
theorem dX12_init_73 : decode cX12_init 73 = .ok (.newarray .int, 2) := by decide +kernel
theorem dX12_init_75 : decode cX12_init 75 = .ok (.putfield 35, 3) := by decide +kernel
theorem dX12_init_78 : decode cX12_init 78 = .ok (.aload_n 0, 1) := by decide +kernel
theorem dX12_init_79 : decode cX12_init 79 = .ok (.new 38, 3) := by decide +kernel
theorem dX12_init_82 : decode cX12_init 82 = .ok (.dup, 1) := by decide +kernel
theorem dX12_init_83 : decode cX12_init 83 = .ok (.invokespecial 40, 3) := by decide +kernel
theorem dX12_init_86 : decode cX12_init 86 = .ok (.putfield 41, 3) := by decide +kernel
theorem dX12_init_89 : decode cX12_init 89 = .ok (.aload_n 0, 1) := by decide +kernel
theorem dX12_init_90 : decode cX12_init 90 = .ok (.new 38, 3) := by decide +kernel
theorem dX12_init_93 : decode cX12_init 93 = .ok (.dup, 1) := by decide +kernel
theorem dX12_init_94 : decode cX12_init 94 = .ok (.invokespecial 40, 3) := by decide +kernel
theorem dX12_init_97 : decode cX12_init 97 = .ok (.putfield 45, 3) := by decide +kernel
theorem dX12_init_100 : decode cX12_init 100 = .ok (.aload_n 0, 1) := by decide +kernel
theorem dX12_init_101 : decode cX12_init 101 = .ok (.sipush 800, 3) := by decide +kernel
theorem dX12_init_104 : decode cX12_init 104 = .ok (.newarray .int, 2) := by decide +kernel
theorem dX12_init_106 : decode cX12_init 106 = .ok (.putfield 48, 3) := by decide +kernel
theorem dX12_init_109 : decode cX12_init 109 = .ok (.aload_n 0, 1) := by decide +kernel
theorem dX12_init_110 : decode cX12_init 110 = .ok (.bipush 61, 2) := by decide +kernel
theorem dX12_init_112 : decode cX12_init 112 = .ok (.newarray .int, 2) := by decide +kernel
theorem dX12_init_114 : decode cX12_init 114 = .ok (.putfield 51, 3) := by decide +kernel
theorem dX12_init_117 : decode cX12_init 117 = .ok (.aload_n 0, 1) := by decide +kernel
theorem dX12_init_118 : decode cX12_init 118 = .ok (.bipush 61, 2) := by decide +kernel
theorem dX12_init_120 : decode cX12_init 120 = .ok (.newarray .int, 2) := by decide +kernel
theorem dX12_init_122 : decode cX12_init 122 = .ok (.putfield 54, 3) := by decide +kernel
theorem dX12_init_125 : decode cX12_init 125 = .ok (.aload_n 0, 1) := by decide +kernel
theorem dX12_init_126 : decode cX12_init 126 = .ok (.bipush 6, 2) := by decide +kernel
theorem dX12_init_128 : decode cX12_init 128 = .ok (.newarray .int, 2) := by decide +kernel
theorem dX12_init_130 : decode cX12_init 130 = .ok (.putfield 57, 3) := by decide +kernel
theorem dX12_init_133 : decode cX12_init 133 = .ok (.aload_n 0, 1) := by decide +kernel
theorem dX12_init_134 : decode cX12_init 134 = .ok (.bipush 6, 2) := by decide +kernel
theorem dX12_init_136 : decode cX12_init 136 = .ok (.newarray .int, 2) := by decide +kernel
theorem dX12_init_138 : decode cX12_init 138 = .ok (.putfield 60, 3) := by decide +kernel
theorem dX12_init_141 : decode cX12_init 141 = .ok (.aload_n 0, 1) := by decide +kernel
theorem dX12_init_142 : decode cX12_init 142 = .ok (.bipush 6, 2) := by decide +kernel
theorem dX12_init_144 : decode cX12_init 144 = .ok (.newarray .int, 2) := by decide +kernel
theorem dX12_init_146 : decode cX12_init 146 = .ok (.putfield 63, 3) := by decide +kernel
theorem dX12_init_149 : decode cX12_init 149 = .ok (.aload_n 0, 1) := by decide +kernel
theorem dX12_init_150 : decode cX12_init 150 = .ok (.invokevirtual 66, 3) := by decide +kernel
theorem dX12_init_153 : decode cX12_init 153 = .ok (.return_, 1) := by decide +kernel
section T
variable {G : GT} {d : Nat} {S : List Value} {h : AH} {P : OC → AH → Prop} {x0 x1 x2 x3 x4 x5 x6 x7 x8 x9 x10 x11 x12 x13 x14 x15 : Option Value}
theorem tX12_init_0 {k : Nat} (r : RQ G mX12_init d 1 [some (.ref k)] (.ref k :: S) (h) P) : RQ G mX12_init d 0 [some (.ref k)] (S) h P := q_aload_n (M := mX12_init) (pc := 0) (r0 := some k) dX12_init_0 rfl rfl r
theorem tX12_init_1 {b : Nat} (hd : 1 ≤ d) (hst : (S.map fun v => v.category).sum ≤ 8 := by exact Nat.le_of_ble_eq_true rfl) (r : RQ G mX12_init d 4 [x0] (S) (h) P) : RQ G mX12_init d 1 [x0] (.ref b :: S) h P := q_objInit (M := mX12_init) (pc := 1) dX12_init_1 w1312 w141 w142 hd hst r
theorem tX12_init_4 {k : Nat} (r : RQ G mX12_init d 5 [some (.ref k)] (.ref k :: S) (h) P) : RQ G mX12_init d 4 [some (.ref k)] (S) h P := q_aload_n (M := mX12_init) (pc := 4) (r0 := some k) dX12_init_4 rfl rfl r
theorem tX12_init_5 (r : RQ G mX12_init d 8 [x0] (.int (nI 1600) :: S) (h) P) : RQ G mX12_init d 5 [x0] (S) h P := q_sipush (M := mX12_init) (pc := 5) dX12_init_5 (by decide) r
theorem tX12_init_8 {n : Nat} {x : Int32} (hx : x = nI n) (hn : n < 60000000) (r : RQ G mX12_init d 10 [x0] (.ref h.1 :: S) (hnew h n (.inl (0, n, .inl (fun _ => 0)))) P) : RQ G mX12_init d 8 [x0] (.int x :: S) h P := q_newaI (M := mX12_init) (pc := 8) dX12_init_8 w186 hx hn r
theorem tX12_init_10 {i : Nat} {vs : List Value} {v : Nat} (ha : At h i (.inr (10, vs))) (hlen : vs.length = 25) (r : RQ G mX12_init d 13 [x0] (S) (hset h i (.inr (10, vs.set 1 (.ref v)))) P) : RQ G mX12_init d 10 [x0] (.ref v :: .ref i :: S) h P := q_putF (M := mX12_init) (pc := 10) (kf := 1) (host := "") dX12_init_10 (show CL[10]? = some (RX12, TX12, 25) from rfl) inA12 tyX12_ok nmX12 (by decide) rfl w1424 rfl rfl rfl (tyX12_ok 1 (by decide)) (nfit_arr _ v) (by rw [hlen]; decide) ha r
theorem tX12_init_13 {k : Nat} (r : RQ G mX12_init d 14 [some (.ref k)] (.ref k :: S) (h) P) : RQ G mX12_init d 13 [some (.ref k)] (S) h P := q_aload_n (M := mX12_init) (pc := 13) (r0 := some k) dX12_init_13 rfl rfl r
theorem tX12_init_14 (r : RQ G mX12_init d 15 [x0] (.int (-1) :: S) (h) P) : RQ G mX12_init d 14 [x0] (S) h P := q_iconst (M := mX12_init) (pc := 14) dX12_init_14 (by decide) r
theorem tX12_init_15 {i : Nat} {vs : List Value} {v : Int32} (ha : At h i (.inr (10, vs))) (hlen : vs.length = 25) (r : RQ G mX12_init d 18 [x0] (S) (hset h i (.inr (10, vs.set 3 (.int v)))) P) : RQ G mX12_init d 15 [x0] (.int v :: .ref i :: S) h P := q_put (M := mX12_init) (pc := 15) (kf := 3) (host := "") dX12_init_15 (show CL[10]? = some (RX12, TX12, 25) from rfl) inA12 tyX12_ok nmX12 (by decide) rfl w1426 rfl (tyX12_ok 3 (by decide)) (nfit_int v) (by rw [hlen]; decide) ha r
theorem tX12_init_18 {k : Nat} (r : RQ G mX12_init d 19 [some (.ref k)] (.ref k :: S) (h) P) : RQ G mX12_init d 18 [some (.ref k)] (S) h P := q_aload_n (M := mX12_init) (pc := 18) (r0 := some k) dX12_init_18 rfl rfl r
theorem tX12_init_19 (r : RQ G mX12_init d 22 [x0] (.int (nI 402) :: S) (h) P) : RQ G mX12_init d 19 [x0] (S) h P := q_sipush (M := mX12_init) (pc := 19) dX12_init_19 (by decide) r
theorem tX12_init_22 {n : Nat} {x : Int32} (hx : x = nI n) (hn : n < 60000000) (r : RQ G mX12_init d 24 [x0] (.ref h.1 :: S) (hnew h n (.inl (0, n, .inl (fun _ => 0)))) P) : RQ G mX12_init d 22 [x0] (.int x :: S) h P := q_newaI (M := mX12_init) (pc := 22) dX12_init_22 w186 hx hn r
theorem tX12_init_24 {i : Nat} {vs : List Value} {v : Nat} (ha : At h i (.inr (10, vs))) (hlen : vs.length = 25) (r : RQ G mX12_init d 27 [x0] (S) (hset h i (.inr (10, vs.set 4 (.ref v)))) P) : RQ G mX12_init d 24 [x0] (.ref v :: .ref i :: S) h P := q_putF (M := mX12_init) (pc := 24) (kf := 4) (host := "") dX12_init_24 (show CL[10]? = some (RX12, TX12, 25) from rfl) inA12 tyX12_ok nmX12 (by decide) rfl w1427 rfl rfl rfl (tyX12_ok 4 (by decide)) (nfit_arr _ v) (by rw [hlen]; decide) ha r
theorem tX12_init_27 {k : Nat} (r : RQ G mX12_init d 28 [some (.ref k)] (.ref k :: S) (h) P) : RQ G mX12_init d 27 [some (.ref k)] (S) h P := q_aload_n (M := mX12_init) (pc := 27) (r0 := some k) dX12_init_27 rfl rfl r
theorem tX12_init_28 (r : RQ G mX12_init d 31 [x0] (.int (nI 402) :: S) (h) P) : RQ G mX12_init d 28 [x0] (S) h P := q_sipush (M := mX12_init) (pc := 28) dX12_init_28 (by decide) r
theorem tX12_init_31 {n : Nat} {x : Int32} (hx : x = nI n) (hn : n < 60000000) (r : RQ G mX12_init d 33 [x0] (.ref h.1 :: S) (hnew h n (.inl (0, n, .inl (fun _ => 0)))) P) : RQ G mX12_init d 31 [x0] (.int x :: S) h P := q_newaI (M := mX12_init) (pc := 31) dX12_init_31 w186 hx hn r
theorem tX12_init_33 {i : Nat} {vs : List Value} {v : Nat} (ha : At h i (.inr (10, vs))) (hlen : vs.length = 25) (r : RQ G mX12_init d 36 [x0] (S) (hset h i (.inr (10, vs.set 5 (.ref v)))) P) : RQ G mX12_init d 33 [x0] (.ref v :: .ref i :: S) h P := q_putF (M := mX12_init) (pc := 33) (kf := 5) (host := "") dX12_init_33 (show CL[10]? = some (RX12, TX12, 25) from rfl) inA12 tyX12_ok nmX12 (by decide) rfl w1428 rfl rfl rfl (tyX12_ok 5 (by decide)) (nfit_arr _ v) (by rw [hlen]; decide) ha r
theorem tX12_init_36 {k : Nat} (r : RQ G mX12_init d 37 [some (.ref k)] (.ref k :: S) (h) P) : RQ G mX12_init d 36 [some (.ref k)] (S) h P := q_aload_n (M := mX12_init) (pc := 36) (r0 := some k) dX12_init_36 rfl rfl r
theorem tX12_init_37 (r : RQ G mX12_init d 40 [x0] (.int (nI 402) :: S) (h) P) : RQ G mX12_init d 37 [x0] (S) h P := q_sipush (M := mX12_init) (pc := 37) dX12_init_37 (by decide) r
theorem tX12_init_40 {n : Nat} {x : Int32} (hx : x = nI n) (hn : n < 60000000) (r : RQ G mX12_init d 42 [x0] (.ref h.1 :: S) (hnew h n (.inl (0, n, .inl (fun _ => 0)))) P) : RQ G mX12_init d 40 [x0] (.int x :: S) h P := q_newaI (M := mX12_init) (pc := 40) dX12_init_40 w186 hx hn r
theorem tX12_init_42 {i : Nat} {vs : List Value} {v : Nat} (ha : At h i (.inr (10, vs))) (hlen : vs.length = 25) (r : RQ G mX12_init d 45 [x0] (S) (hset h i (.inr (10, vs.set 6 (.ref v)))) P) : RQ G mX12_init d 42 [x0] (.ref v :: .ref i :: S) h P := q_putF (M := mX12_init) (pc := 42) (kf := 6) (host := "") dX12_init_42 (show CL[10]? = some (RX12, TX12, 25) from rfl) inA12 tyX12_ok nmX12 (by decide) rfl w1429 rfl rfl rfl (tyX12_ok 6 (by decide)) (nfit_arr _ v) (by rw [hlen]; decide) ha r
theorem tX12_init_45 {k : Nat} (r : RQ G mX12_init d 46 [some (.ref k)] (.ref k :: S) (h) P) : RQ G mX12_init d 45 [some (.ref k)] (S) h P := q_aload_n (M := mX12_init) (pc := 45) (r0 := some k) dX12_init_45 rfl rfl r
theorem tX12_init_46 (r : RQ G mX12_init d 49 [x0] (.int (nI 402) :: S) (h) P) : RQ G mX12_init d 46 [x0] (S) h P := q_sipush (M := mX12_init) (pc := 46) dX12_init_46 (by decide) r
theorem tX12_init_49 {n : Nat} {x : Int32} (hx : x = nI n) (hn : n < 60000000) (r : RQ G mX12_init d 51 [x0] (.ref h.1 :: S) (hnew h n (.inl (0, n, .inl (fun _ => 0)))) P) : RQ G mX12_init d 49 [x0] (.int x :: S) h P := q_newaI (M := mX12_init) (pc := 49) dX12_init_49 w186 hx hn r
theorem tX12_init_51 {i : Nat} {vs : List Value} {v : Nat} (ha : At h i (.inr (10, vs))) (hlen : vs.length = 25) (r : RQ G mX12_init d 54 [x0] (S) (hset h i (.inr (10, vs.set 7 (.ref v)))) P) : RQ G mX12_init d 51 [x0] (.ref v :: .ref i :: S) h P := q_putF (M := mX12_init) (pc := 51) (kf := 7) (host := "") dX12_init_51 (show CL[10]? = some (RX12, TX12, 25) from rfl) inA12 tyX12_ok nmX12 (by decide) rfl w1430 rfl rfl rfl (tyX12_ok 7 (by decide)) (nfit_arr _ v) (by rw [hlen]; decide) ha r
theorem tX12_init_54 {k : Nat} (r : RQ G mX12_init d 55 [some (.ref k)] (.ref k :: S) (h) P) : RQ G mX12_init d 54 [some (.ref k)] (S) h P := q_aload_n (M := mX12_init) (pc := 54) (r0 := some k) dX12_init_54 rfl rfl r
theorem tX12_init_55 (r : RQ G mX12_init d 57 [x0] (.int (nI 20) :: S) (h) P) : RQ G mX12_init d 55 [x0] (S) h P := q_bipush (M := mX12_init) (pc := 55) dX12_init_55 (by decide) r
theorem tX12_init_57 {n : Nat} {x : Int32} (hx : x = nI n) (hn : n < 60000000) (r : RQ G mX12_init d 59 [x0] (.ref h.1 :: S) (hnew h n (.inl (0, n, .inl (fun _ => 0)))) P) : RQ G mX12_init d 57 [x0] (.int x :: S) h P := q_newaI (M := mX12_init) (pc := 57) dX12_init_57 w186 hx hn r
theorem tX12_init_59 {i : Nat} {vs : List Value} {v : Nat} (ha : At h i (.inr (10, vs))) (hlen : vs.length = 25) (r : RQ G mX12_init d 62 [x0] (S) (hset h i (.inr (10, vs.set 13 (.ref v)))) P) : RQ G mX12_init d 59 [x0] (.ref v :: .ref i :: S) h P := q_putF (M := mX12_init) (pc := 59) (kf := 13) (host := "") dX12_init_59 (show CL[10]? = some (RX12, TX12, 25) from rfl) inA12 tyX12_ok nmX12 (by decide) rfl w1436 rfl rfl rfl (tyX12_ok 13 (by decide)) (nfit_arr _ v) (by rw [hlen]; decide) ha r
theorem tX12_init_62 {k : Nat} (r : RQ G mX12_init d 63 [some (.ref k)] (.ref k :: S) (h) P) : RQ G mX12_init d 62 [some (.ref k)] (S) h P := q_aload_n (M := mX12_init) (pc := 62) (r0 := some k) dX12_init_62 rfl rfl r
theorem tX12_init_63 (r : RQ G mX12_init d 65 [x0] (.int (nI 20) :: S) (h) P) : RQ G mX12_init d 63 [x0] (S) h P := q_bipush (M := mX12_init) (pc := 63) dX12_init_63 (by decide) r
theorem tX12_init_65 {n : Nat} {x : Int32} (hx : x = nI n) (hn : n < 60000000) (r : RQ G mX12_init d 67 [x0] (.ref h.1 :: S) (hnew h n (.inl (0, n, .inl (fun _ => 0)))) P) : RQ G mX12_init d 65 [x0] (.int x :: S) h P := q_newaI (M := mX12_init) (pc := 65) dX12_init_65 w186 hx hn r
theorem tX12_init_67 {i : Nat} {vs : List Value} {v : Nat} (ha : At h i (.inr (10, vs))) (hlen : vs.length = 25) (r : RQ G mX12_init d 70 [x0] (S) (hset h i (.inr (10, vs.set 14 (.ref v)))) P) : RQ G mX12_init d 67 [x0] (.ref v :: .ref i :: S) h P := q_putF (M := mX12_init) (pc := 67) (kf := 14) (host := "") dX12_init_67 (show CL[10]? = some (RX12, TX12, 25) from rfl) inA12 tyX12_ok nmX12 (by decide) rfl w1437 rfl rfl rfl (tyX12_ok 14 (by decide)) (nfit_arr _ v) (by rw [hlen]; decide) ha r
theorem tX12_init_70 {k : Nat} (r : RQ G mX12_init d 71 [some (.ref k)] (.ref k :: S) (h) P) : RQ G mX12_init d 70 [some (.ref k)] (S) h P := q_aload_n (M := mX12_init) (pc := 70) (r0 := some k) dX12_init_70 rfl rfl r
theorem tX12_init_71 (r : RQ G mX12_init d 73 [x0] (.int (nI 20) :: S) (h) P) : RQ G mX12_init d 71 [x0] (S) h P := q_bipush (M := mX12_init) (pc := 71) dX12_init_71 (by decide) r
theorem tX12_init_73 {n : Nat} {x : Int32} (hx : x = nI n) (hn : n < 60000000) (r : RQ G mX12_init d 75 [x0] (.ref h.1 :: S) (hnew h n (.inl (0, n, .inl (fun _ => 0)))) P) : RQ G mX12_init d 73 [x0] (.int x :: S) h P := q_newaI (M := mX12_init) (pc := 73) dX12_init_73 w186 hx hn r
theorem tX12_init_75 {i : Nat} {vs : List Value} {v : Nat} (ha : At h i (.inr (10, vs))) (hlen : vs.length = 25) (r : RQ G mX12_init d 78 [x0] (S) (hset h i (.inr (10, vs.set 15 (.ref v)))) P) : RQ G mX12_init d 75 [x0] (.ref v :: .ref i :: S) h P := q_putF (M := mX12_init) (pc := 75) (kf := 15) (host := "") dX12_init_75 (show CL[10]? = some (RX12, TX12, 25) from rfl) inA12 tyX12_ok nmX12 (by decide) rfl w1438 rfl rfl rfl (tyX12_ok 15 (by decide)) (nfit_arr _ v) (by rw [hlen]; decide) ha r
theorem tX12_init_78 {k : Nat} (r : RQ G mX12_init d 79 [some (.ref k)] (.ref k :: S) (h) P) : RQ G mX12_init d 78 [some (.ref k)] (S) h P := q_aload_n (M := mX12_init) (pc := 78) (r0 := some k) dX12_init_78 rfl rfl r
theorem tX12_init_79 (r : RQ G mX12_init d 82 [x0] (.ref h.1 :: S) (hnew h 24 (.inr (9, [.int 0, .int 0, .null, .null, .null, .int 0, .null, .null, .null, .null, .int 0, .null, .null, .null, .null, .int 0, .null, .null, .null, .null, .int 0, .null, .null, .null]))) P) : RQ G mX12_init d 79 [x0] (S) h P := q_new (M := mX12_init) (pc := 79) dX12_init_79 (show CL[9]? = some (RX11, TX11, 24) from rfl) inA11 tyX11_ok w1313 w1314 w121 dfX11 dnX11 r
theorem tX12_init_82 {v : Value} (hv : ok1 (some v) = true := by rfl) (r : RQ G mX12_init d 83 [x0] (v :: v :: S) (h) P) : RQ G mX12_init d 82 [x0] (v :: S) h P := q_dup (M := mX12_init) (pc := 82) dX12_init_82 hv r
theorem tX12_init_83 {b d2 : Nat}  {Q : AH → Prop} (hd : d2 + 1 ≤ d) (call : RQ G mX11_init d2 0 [some (.ref b)] [] h (Rv Q)) (k : ∀ h1, Q h1 → RQ G mX12_init d 86 [x0] S h1 P) (hst : (S.map fun v => v.category).sum ≤ 8 := by exact Nat.le_of_ble_eq_true rfl)  : RQ G mX12_init d 83 [x0] (.ref b :: S) h P := q_callIN (M := mX12_init) (pc := 83) (M2 := mX11_init) (As := []) (n := 0) dX12_init_83 ⟨by decide, by decide, by decide, rfl⟩ rfl rfl rfl v1315 w1316 w121 w1317 hd (by decide) (Nat.le_of_ble_eq_true rfl) rfl hst call (callk_v k)
theorem tX12_init_86 {i : Nat} {vs : List Value} {v : Nat} (ha : At h i (.inr (10, vs))) (hlen : vs.length = 25) (r : RQ G mX12_init d 89 [x0] (S) (hset h i (.inr (10, vs.set 17 (.ref v)))) P) : RQ G mX12_init d 86 [x0] (.ref v :: .ref i :: S) h P := q_putF (M := mX12_init) (pc := 86) (kf := 17) (host := "") dX12_init_86 (show CL[10]? = some (RX12, TX12, 25) from rfl) inA12 tyX12_ok nmX12 (by decide) rfl w1440 rfl rfl rfl (tyX12_ok 17 (by decide)) (nfit_obj _ v) (by rw [hlen]; decide) ha r
theorem tX12_init_89 {k : Nat} (r : RQ G mX12_init d 90 [some (.ref k)] (.ref k :: S) (h) P) : RQ G mX12_init d 89 [some (.ref k)] (S) h P := q_aload_n (M := mX12_init) (pc := 89) (r0 := some k) dX12_init_89 rfl rfl r
theorem tX12_init_90 (r : RQ G mX12_init d 93 [x0] (.ref h.1 :: S) (hnew h 24 (.inr (9, [.int 0, .int 0, .null, .null, .null, .int 0, .null, .null, .null, .null, .int 0, .null, .null, .null, .null, .int 0, .null, .null, .null, .null, .int 0, .null, .null, .null]))) P) : RQ G mX12_init d 90 [x0] (S) h P := q_new (M := mX12_init) (pc := 90) dX12_init_90 (show CL[9]? = some (RX11, TX11, 24) from rfl) inA11 tyX11_ok w1313 w1314 w121 dfX11 dnX11 r
theorem tX12_init_93 {v : Value} (hv : ok1 (some v) = true := by rfl) (r : RQ G mX12_init d 94 [x0] (v :: v :: S) (h) P) : RQ G mX12_init d 93 [x0] (v :: S) h P := q_dup (M := mX12_init) (pc := 93) dX12_init_93 hv r
theorem tX12_init_94 {b d2 : Nat}  {Q : AH → Prop} (hd : d2 + 1 ≤ d) (call : RQ G mX11_init d2 0 [some (.ref b)] [] h (Rv Q)) (k : ∀ h1, Q h1 → RQ G mX12_init d 97 [x0] S h1 P) (hst : (S.map fun v => v.category).sum ≤ 8 := by exact Nat.le_of_ble_eq_true rfl)  : RQ G mX12_init d 94 [x0] (.ref b :: S) h P := q_callIN (M := mX12_init) (pc := 94) (M2 := mX11_init) (As := []) (n := 0) dX12_init_94 ⟨by decide, by decide, by decide, rfl⟩ rfl rfl rfl v1315 w1316 w121 w1317 hd (by decide) (Nat.le_of_ble_eq_true rfl) rfl hst call (callk_v k)
theorem tX12_init_97 {i : Nat} {vs : List Value} {v : Nat} (ha : At h i (.inr (10, vs))) (hlen : vs.length = 25) (r : RQ G mX12_init d 100 [x0] (S) (hset h i (.inr (10, vs.set 18 (.ref v)))) P) : RQ G mX12_init d 97 [x0] (.ref v :: .ref i :: S) h P := q_putF (M := mX12_init) (pc := 97) (kf := 18) (host := "") dX12_init_97 (show CL[10]? = some (RX12, TX12, 25) from rfl) inA12 tyX12_ok nmX12 (by decide) rfl w1441 rfl rfl rfl (tyX12_ok 18 (by decide)) (nfit_obj _ v) (by rw [hlen]; decide) ha r
theorem tX12_init_100 {k : Nat} (r : RQ G mX12_init d 101 [some (.ref k)] (.ref k :: S) (h) P) : RQ G mX12_init d 100 [some (.ref k)] (S) h P := q_aload_n (M := mX12_init) (pc := 100) (r0 := some k) dX12_init_100 rfl rfl r
theorem tX12_init_101 (r : RQ G mX12_init d 104 [x0] (.int (nI 800) :: S) (h) P) : RQ G mX12_init d 101 [x0] (S) h P := q_sipush (M := mX12_init) (pc := 101) dX12_init_101 (by decide) r
theorem tX12_init_104 {n : Nat} {x : Int32} (hx : x = nI n) (hn : n < 60000000) (r : RQ G mX12_init d 106 [x0] (.ref h.1 :: S) (hnew h n (.inl (0, n, .inl (fun _ => 0)))) P) : RQ G mX12_init d 104 [x0] (.int x :: S) h P := q_newaI (M := mX12_init) (pc := 104) dX12_init_104 w186 hx hn r
theorem tX12_init_106 {i : Nat} {vs : List Value} {v : Nat} (ha : At h i (.inr (10, vs))) (hlen : vs.length = 25) (r : RQ G mX12_init d 109 [x0] (S) (hset h i (.inr (10, vs.set 19 (.ref v)))) P) : RQ G mX12_init d 106 [x0] (.ref v :: .ref i :: S) h P := q_putF (M := mX12_init) (pc := 106) (kf := 19) (host := "") dX12_init_106 (show CL[10]? = some (RX12, TX12, 25) from rfl) inA12 tyX12_ok nmX12 (by decide) rfl w1442 rfl rfl rfl (tyX12_ok 19 (by decide)) (nfit_arr _ v) (by rw [hlen]; decide) ha r
theorem tX12_init_109 {k : Nat} (r : RQ G mX12_init d 110 [some (.ref k)] (.ref k :: S) (h) P) : RQ G mX12_init d 109 [some (.ref k)] (S) h P := q_aload_n (M := mX12_init) (pc := 109) (r0 := some k) dX12_init_109 rfl rfl r
theorem tX12_init_110 (r : RQ G mX12_init d 112 [x0] (.int (nI 61) :: S) (h) P) : RQ G mX12_init d 110 [x0] (S) h P := q_bipush (M := mX12_init) (pc := 110) dX12_init_110 (by decide) r
theorem tX12_init_112 {n : Nat} {x : Int32} (hx : x = nI n) (hn : n < 60000000) (r : RQ G mX12_init d 114 [x0] (.ref h.1 :: S) (hnew h n (.inl (0, n, .inl (fun _ => 0)))) P) : RQ G mX12_init d 112 [x0] (.int x :: S) h P := q_newaI (M := mX12_init) (pc := 112) dX12_init_112 w186 hx hn r
theorem tX12_init_114 {i : Nat} {vs : List Value} {v : Nat} (ha : At h i (.inr (10, vs))) (hlen : vs.length = 25) (r : RQ G mX12_init d 117 [x0] (S) (hset h i (.inr (10, vs.set 20 (.ref v)))) P) : RQ G mX12_init d 114 [x0] (.ref v :: .ref i :: S) h P := q_putF (M := mX12_init) (pc := 114) (kf := 20) (host := "") dX12_init_114 (show CL[10]? = some (RX12, TX12, 25) from rfl) inA12 tyX12_ok nmX12 (by decide) rfl w1443 rfl rfl rfl (tyX12_ok 20 (by decide)) (nfit_arr _ v) (by rw [hlen]; decide) ha r
theorem tX12_init_117 {k : Nat} (r : RQ G mX12_init d 118 [some (.ref k)] (.ref k :: S) (h) P) : RQ G mX12_init d 117 [some (.ref k)] (S) h P := q_aload_n (M := mX12_init) (pc := 117) (r0 := some k) dX12_init_117 rfl rfl r
theorem tX12_init_118 (r : RQ G mX12_init d 120 [x0] (.int (nI 61) :: S) (h) P) : RQ G mX12_init d 118 [x0] (S) h P := q_bipush (M := mX12_init) (pc := 118) dX12_init_118 (by decide) r
theorem tX12_init_120 {n : Nat} {x : Int32} (hx : x = nI n) (hn : n < 60000000) (r : RQ G mX12_init d 122 [x0] (.ref h.1 :: S) (hnew h n (.inl (0, n, .inl (fun _ => 0)))) P) : RQ G mX12_init d 120 [x0] (.int x :: S) h P := q_newaI (M := mX12_init) (pc := 120) dX12_init_120 w186 hx hn r
theorem tX12_init_122 {i : Nat} {vs : List Value} {v : Nat} (ha : At h i (.inr (10, vs))) (hlen : vs.length = 25) (r : RQ G mX12_init d 125 [x0] (S) (hset h i (.inr (10, vs.set 21 (.ref v)))) P) : RQ G mX12_init d 122 [x0] (.ref v :: .ref i :: S) h P := q_putF (M := mX12_init) (pc := 122) (kf := 21) (host := "") dX12_init_122 (show CL[10]? = some (RX12, TX12, 25) from rfl) inA12 tyX12_ok nmX12 (by decide) rfl w1444 rfl rfl rfl (tyX12_ok 21 (by decide)) (nfit_arr _ v) (by rw [hlen]; decide) ha r
theorem tX12_init_125 {k : Nat} (r : RQ G mX12_init d 126 [some (.ref k)] (.ref k :: S) (h) P) : RQ G mX12_init d 125 [some (.ref k)] (S) h P := q_aload_n (M := mX12_init) (pc := 125) (r0 := some k) dX12_init_125 rfl rfl r
theorem tX12_init_126 (r : RQ G mX12_init d 128 [x0] (.int (nI 6) :: S) (h) P) : RQ G mX12_init d 126 [x0] (S) h P := q_bipush (M := mX12_init) (pc := 126) dX12_init_126 (by decide) r
theorem tX12_init_128 {n : Nat} {x : Int32} (hx : x = nI n) (hn : n < 60000000) (r : RQ G mX12_init d 130 [x0] (.ref h.1 :: S) (hnew h n (.inl (0, n, .inl (fun _ => 0)))) P) : RQ G mX12_init d 128 [x0] (.int x :: S) h P := q_newaI (M := mX12_init) (pc := 128) dX12_init_128 w186 hx hn r
theorem tX12_init_130 {i : Nat} {vs : List Value} {v : Nat} (ha : At h i (.inr (10, vs))) (hlen : vs.length = 25) (r : RQ G mX12_init d 133 [x0] (S) (hset h i (.inr (10, vs.set 22 (.ref v)))) P) : RQ G mX12_init d 130 [x0] (.ref v :: .ref i :: S) h P := q_putF (M := mX12_init) (pc := 130) (kf := 22) (host := "") dX12_init_130 (show CL[10]? = some (RX12, TX12, 25) from rfl) inA12 tyX12_ok nmX12 (by decide) rfl w1445 rfl rfl rfl (tyX12_ok 22 (by decide)) (nfit_arr _ v) (by rw [hlen]; decide) ha r
theorem tX12_init_133 {k : Nat} (r : RQ G mX12_init d 134 [some (.ref k)] (.ref k :: S) (h) P) : RQ G mX12_init d 133 [some (.ref k)] (S) h P := q_aload_n (M := mX12_init) (pc := 133) (r0 := some k) dX12_init_133 rfl rfl r
theorem tX12_init_134 (r : RQ G mX12_init d 136 [x0] (.int (nI 6) :: S) (h) P) : RQ G mX12_init d 134 [x0] (S) h P := q_bipush (M := mX12_init) (pc := 134) dX12_init_134 (by decide) r
theorem tX12_init_136 {n : Nat} {x : Int32} (hx : x = nI n) (hn : n < 60000000) (r : RQ G mX12_init d 138 [x0] (.ref h.1 :: S) (hnew h n (.inl (0, n, .inl (fun _ => 0)))) P) : RQ G mX12_init d 136 [x0] (.int x :: S) h P := q_newaI (M := mX12_init) (pc := 136) dX12_init_136 w186 hx hn r
theorem tX12_init_138 {i : Nat} {vs : List Value} {v : Nat} (ha : At h i (.inr (10, vs))) (hlen : vs.length = 25) (r : RQ G mX12_init d 141 [x0] (S) (hset h i (.inr (10, vs.set 23 (.ref v)))) P) : RQ G mX12_init d 138 [x0] (.ref v :: .ref i :: S) h P := q_putF (M := mX12_init) (pc := 138) (kf := 23) (host := "") dX12_init_138 (show CL[10]? = some (RX12, TX12, 25) from rfl) inA12 tyX12_ok nmX12 (by decide) rfl w1446 rfl rfl rfl (tyX12_ok 23 (by decide)) (nfit_arr _ v) (by rw [hlen]; decide) ha r
theorem tX12_init_141 {k : Nat} (r : RQ G mX12_init d 142 [some (.ref k)] (.ref k :: S) (h) P) : RQ G mX12_init d 141 [some (.ref k)] (S) h P := q_aload_n (M := mX12_init) (pc := 141) (r0 := some k) dX12_init_141 rfl rfl r
theorem tX12_init_142 (r : RQ G mX12_init d 144 [x0] (.int (nI 6) :: S) (h) P) : RQ G mX12_init d 142 [x0] (S) h P := q_bipush (M := mX12_init) (pc := 142) dX12_init_142 (by decide) r
theorem tX12_init_144 {n : Nat} {x : Int32} (hx : x = nI n) (hn : n < 60000000) (r : RQ G mX12_init d 146 [x0] (.ref h.1 :: S) (hnew h n (.inl (0, n, .inl (fun _ => 0)))) P) : RQ G mX12_init d 144 [x0] (.int x :: S) h P := q_newaI (M := mX12_init) (pc := 144) dX12_init_144 w186 hx hn r
theorem tX12_init_146 {i : Nat} {vs : List Value} {v : Nat} (ha : At h i (.inr (10, vs))) (hlen : vs.length = 25) (r : RQ G mX12_init d 149 [x0] (S) (hset h i (.inr (10, vs.set 24 (.ref v)))) P) : RQ G mX12_init d 146 [x0] (.ref v :: .ref i :: S) h P := q_putF (M := mX12_init) (pc := 146) (kf := 24) (host := "") dX12_init_146 (show CL[10]? = some (RX12, TX12, 25) from rfl) inA12 tyX12_ok nmX12 (by decide) rfl w1447 rfl rfl rfl (tyX12_ok 24 (by decide)) (nfit_arr _ v) (by rw [hlen]; decide) ha r
theorem tX12_init_149 {k : Nat} (r : RQ G mX12_init d 150 [some (.ref k)] (.ref k :: S) (h) P) : RQ G mX12_init d 149 [some (.ref k)] (S) h P := q_aload_n (M := mX12_init) (pc := 149) (r0 := some k) dX12_init_149 rfl rfl r
theorem tX12_init_150 {b d2 : Nat} {vs : List Value}  {Q : AH → Prop} (hd : d2 + 1 ≤ d) (ha : At h b (.inr (10, vs))) (call : RQ G mX12_anew d2 0 [some (.ref b), none] [] h (Rv Q)) (k : ∀ h1, Q h1 → RQ G mX12_init d 153 [x0] S h1 P) (hst : (S.map fun v => v.category).sum ≤ 8 := by exact Nat.le_of_ble_eq_true rfl)  : RQ G mX12_init d 150 [x0] (.ref b :: S) h P := q_callV (M := mX12_init) (pc := 150) (M2 := mX12_anew) (As := []) (n := 0) dX12_init_150 rfl ⟨by decide, by decide, by decide, rfl⟩ rfl w1416 w1418 w40 w120 w1419 (show CL[10]? = some (RX12, TX12, 25) from rfl) hd (by decide) (Nat.le_of_ble_eq_true rfl) rfl ha hst call (callk_v k)
theorem tX12_init_153 (hP : P (.inl none) h) : RQ G mX12_init d 153 [x0] ([]) h P := q_return (M := mX12_init) (pc := 153) dX12_init_153 rfl hP
end T
theorem dX12_thrown_0 : decode cX12_thrown 0 = .ok (.aload_n 0, 1) := by decide +kernel
theorem dX12_thrown_1 : decode cX12_thrown 1 = .ok (.getfield 69, 3) := by decide +kernel
theorem dX12_thrown_4 : decode cX12_thrown 4 = .ok (.ireturn, 1) := by decide +kernel
section T
variable {G : GT} {d : Nat} {S : List Value} {h : AH} {P : OC → AH → Prop} {x0 x1 x2 x3 x4 x5 x6 x7 x8 x9 x10 x11 x12 x13 x14 x15 : Option Value}
theorem tX12_thrown_0 {k : Nat} (r : RQ G mX12_thrown d 1 [some (.ref k)] (.ref k :: S) (h) P) : RQ G mX12_thrown d 0 [some (.ref k)] (S) h P := q_aload_n (M := mX12_thrown) (pc := 0) (r0 := some k) dX12_thrown_0 rfl rfl r
theorem tX12_thrown_1 {i : Nat} {vs : List Value} {v : Value} (ha : At h i (.inr (10, vs))) (hv : vs[0]? = some v) (r : RQ G mX12_thrown d 4 [x0] (v :: S) (h) P) : RQ G mX12_thrown d 1 [x0] (.ref i :: S) h P := q_get (M := mX12_thrown) (pc := 1) (kf := 0) dX12_thrown_1 (show CL[10]? = some (RX12, TX12, 25) from rfl) inA12 (by decide) rfl w1423 ha hv r
theorem tX12_thrown_4 {x : Int32} (hP : P (.inl (some (.int x))) h) : RQ G mX12_thrown d 4 [x0] ([.int x]) h P := q_ireturn (M := mX12_thrown) (pc := 4) (ty := .int) dX12_thrown_4 rfl rfl hP
end T
theorem dX12_no_0 : decode cX12_no 0 = .ok (.aload_n 0, 1) := by decide +kernel
theorem dX12_no_1 : decode cX12_no 1 = .ok (.iload_n 1, 1) := by decide +kernel
theorem dX12_no_2 : decode cX12_no 2 = .ok (.putfield 69, 3) := by decide +kernel
theorem dX12_no_5 : decode cX12_no 5 = .ok (.iconst 0, 1) := by decide +kernel
theorem dX12_no_6 : decode cX12_no 6 = .ok (.ireturn, 1) := by decide +kernel
section T
variable {G : GT} {d : Nat} {S : List Value} {h : AH} {P : OC → AH → Prop} {x0 x1 x2 x3 x4 x5 x6 x7 x8 x9 x10 x11 x12 x13 x14 x15 : Option Value}
theorem tX12_no_0 {k : Nat} (r : RQ G mX12_no d 1 [some (.ref k), x1] (.ref k :: S) (h) P) : RQ G mX12_no d 0 [some (.ref k), x1] (S) h P := q_aload_n (M := mX12_no) (pc := 0) (r0 := some k) dX12_no_0 rfl rfl r
theorem tX12_no_1 {v : Int32} (r : RQ G mX12_no d 2 [x0, some (.int v)] (.int v :: S) (h) P) : RQ G mX12_no d 1 [x0, some (.int v)] (S) h P := q_iload_n (M := mX12_no) (pc := 1) dX12_no_1 rfl rfl r
theorem tX12_no_2 {i : Nat} {vs : List Value} {v : Int32} (ha : At h i (.inr (10, vs))) (hlen : vs.length = 25) (r : RQ G mX12_no d 5 [x0, x1] (S) (hset h i (.inr (10, vs.set 0 (.int v)))) P) : RQ G mX12_no d 2 [x0, x1] (.int v :: .ref i :: S) h P := q_put (M := mX12_no) (pc := 2) (kf := 0) (host := "") dX12_no_2 (show CL[10]? = some (RX12, TX12, 25) from rfl) inA12 tyX12_ok nmX12 (by decide) rfl w1423 rfl (tyX12_ok 0 (by decide)) (nfit_int v) (by rw [hlen]; decide) ha r
theorem tX12_no_5 (r : RQ G mX12_no d 6 [x0, x1] (.int (nI 0) :: S) (h) P) : RQ G mX12_no d 5 [x0, x1] (S) h P := q_iconst (M := mX12_no) (pc := 5) dX12_no_5 (by decide) r
theorem tX12_no_6 {x : Int32} (hP : P (.inl (some (.int x))) h) : RQ G mX12_no d 6 [x0, x1] ([.int x]) h P := q_ireturn (M := mX12_no) (pc := 6) (ty := .int) dX12_no_6 rfl rfl hP
end T
theorem dX12_ok_0 : decode cX12_ok 0 = .ok (.aload_n 0, 1) := by decide +kernel
theorem dX12_ok_1 : decode cX12_ok 1 = .ok (.iconst 0, 1) := by decide +kernel
theorem dX12_ok_2 : decode cX12_ok 2 = .ok (.putfield 69, 3) := by decide +kernel
theorem dX12_ok_5 : decode cX12_ok 5 = .ok (.iload_n 1, 1) := by decide +kernel
theorem dX12_ok_6 : decode cX12_ok 6 = .ok (.ireturn, 1) := by decide +kernel
section T
variable {G : GT} {d : Nat} {S : List Value} {h : AH} {P : OC → AH → Prop} {x0 x1 x2 x3 x4 x5 x6 x7 x8 x9 x10 x11 x12 x13 x14 x15 : Option Value}
theorem tX12_ok_0 {k : Nat} (r : RQ G mX12_ok d 1 [some (.ref k), x1] (.ref k :: S) (h) P) : RQ G mX12_ok d 0 [some (.ref k), x1] (S) h P := q_aload_n (M := mX12_ok) (pc := 0) (r0 := some k) dX12_ok_0 rfl rfl r
theorem tX12_ok_1 (r : RQ G mX12_ok d 2 [x0, x1] (.int (nI 0) :: S) (h) P) : RQ G mX12_ok d 1 [x0, x1] (S) h P := q_iconst (M := mX12_ok) (pc := 1) dX12_ok_1 (by decide) r
theorem tX12_ok_2 {i : Nat} {vs : List Value} {v : Int32} (ha : At h i (.inr (10, vs))) (hlen : vs.length = 25) (r : RQ G mX12_ok d 5 [x0, x1] (S) (hset h i (.inr (10, vs.set 0 (.int v)))) P) : RQ G mX12_ok d 2 [x0, x1] (.int v :: .ref i :: S) h P := q_put (M := mX12_ok) (pc := 2) (kf := 0) (host := "") dX12_ok_2 (show CL[10]? = some (RX12, TX12, 25) from rfl) inA12 tyX12_ok nmX12 (by decide) rfl w1423 rfl (tyX12_ok 0 (by decide)) (nfit_int v) (by rw [hlen]; decide) ha r
theorem tX12_ok_5 {v : Int32} (r : RQ G mX12_ok d 6 [x0, some (.int v)] (.int v :: S) (h) P) : RQ G mX12_ok d 5 [x0, some (.int v)] (S) h P := q_iload_n (M := mX12_ok) (pc := 5) dX12_ok_5 rfl rfl r
theorem tX12_ok_6 {x : Int32} (hP : P (.inl (some (.int x))) h) : RQ G mX12_ok d 6 [x0, x1] ([.int x]) h P := q_ireturn (M := mX12_ok) (pc := 6) (ty := .int) dX12_ok_6 rfl rfl hP
end T
theorem dX12_isIn_0 : decode cX12_isIn 0 = .ok (.iload_n 0, 1) := by decide +kernel
theorem dX12_isIn_1 : decode cX12_isIn 1 = .ok (.iload_n 1, 1) := by decide +kernel
theorem dX12_isIn_2 : decode cX12_isIn 2 = .ok (.if_icmp .lt 12, 3) := by decide +kernel
theorem dX12_isIn_5 : decode cX12_isIn 5 = .ok (.iload_n 0, 1) := by decide +kernel
theorem dX12_isIn_6 : decode cX12_isIn 6 = .ok (.iload_n 2, 1) := by decide +kernel
theorem dX12_isIn_7 : decode cX12_isIn 7 = .ok (.if_icmp .gt 7, 3) := by decide +kernel
theorem dX12_isIn_10 : decode cX12_isIn 10 = .ok (.iconst 1, 1) := by decide +kernel
theorem dX12_isIn_11 : decode cX12_isIn 11 = .ok (.goto 4, 3) := by decide +kernel
theorem dX12_isIn_14 : decode cX12_isIn 14 = .ok (.iconst 0, 1) := by decide +kernel
theorem dX12_isIn_15 : decode cX12_isIn 15 = .ok (.ireturn, 1) := by decide +kernel
section T
variable {G : GT} {d : Nat} {S : List Value} {h : AH} {P : OC → AH → Prop} {x0 x1 x2 x3 x4 x5 x6 x7 x8 x9 x10 x11 x12 x13 x14 x15 : Option Value}
theorem tX12_isIn_0 {v : Int32} (r : RQ G mX12_isIn d 1 [some (.int v), x1, x2] (.int v :: S) (h) P) : RQ G mX12_isIn d 0 [some (.int v), x1, x2] (S) h P := q_iload_n (M := mX12_isIn) (pc := 0) dX12_isIn_0 rfl rfl r
theorem tX12_isIn_1 {v : Int32} (r : RQ G mX12_isIn d 2 [x0, some (.int v), x2] (.int v :: S) (h) P) : RQ G mX12_isIn d 1 [x0, some (.int v), x2] (S) h P := q_iload_n (M := mX12_isIn) (pc := 1) dX12_isIn_1 rfl rfl r
theorem tX12_isIn_2 {x y : Int32} (kt : x < y → RQ G mX12_isIn d 14 [x0, x1, x2] S h P) (kf : ¬ x < y → RQ G mX12_isIn d 5 [x0, x1, x2] S h P) : RQ G mX12_isIn d 2 [x0, x1, x2] (.int y :: .int x :: S) h P := q_icmp_lt (M := mX12_isIn) (pc := 2) dX12_isIn_2 (by decide) kt kf
theorem tX12_isIn_5 {v : Int32} (r : RQ G mX12_isIn d 6 [some (.int v), x1, x2] (.int v :: S) (h) P) : RQ G mX12_isIn d 5 [some (.int v), x1, x2] (S) h P := q_iload_n (M := mX12_isIn) (pc := 5) dX12_isIn_5 rfl rfl r
theorem tX12_isIn_6 {v : Int32} (r : RQ G mX12_isIn d 7 [x0, x1, some (.int v)] (.int v :: S) (h) P) : RQ G mX12_isIn d 6 [x0, x1, some (.int v)] (S) h P := q_iload_n (M := mX12_isIn) (pc := 6) dX12_isIn_6 rfl rfl r
theorem tX12_isIn_7 {x y : Int32} (kt : y < x → RQ G mX12_isIn d 14 [x0, x1, x2] S h P) (kf : ¬ y < x → RQ G mX12_isIn d 10 [x0, x1, x2] S h P) : RQ G mX12_isIn d 7 [x0, x1, x2] (.int y :: .int x :: S) h P := q_icmp_gt (M := mX12_isIn) (pc := 7) dX12_isIn_7 (by decide) kt kf
theorem tX12_isIn_10 (r : RQ G mX12_isIn d 11 [x0, x1, x2] (.int (nI 1) :: S) (h) P) : RQ G mX12_isIn d 10 [x0, x1, x2] (S) h P := q_iconst (M := mX12_isIn) (pc := 10) dX12_isIn_10 (by decide) r
theorem tX12_isIn_11 (r : RQ G mX12_isIn d 15 [x0, x1, x2] S h P) : RQ G mX12_isIn d 11 [x0, x1, x2] (S) h P := q_goto (M := mX12_isIn) (pc := 11) dX12_isIn_11 (by decide) r
theorem tX12_isIn_14 (r : RQ G mX12_isIn d 15 [x0, x1, x2] (.int (nI 0) :: S) (h) P) : RQ G mX12_isIn d 14 [x0, x1, x2] (S) h P := q_iconst (M := mX12_isIn) (pc := 14) dX12_isIn_14 (by decide) r
theorem tX12_isIn_15 {x : Int32} (hb : x = nI 0 ∨ x = nI 1) (hP : P (.inl (some (.int x))) h) : RQ G mX12_isIn d 15 [x0, x1, x2] ([.int x]) h P := q_ireturn (M := mX12_isIn) (pc := 15) (ty := .boolean) dX12_isIn_15 rfl (nar_bool hb) hP
end T
theorem dX12_anew_0 : decode cX12_anew 0 = .ok (.aload_n 0, 1) := by decide +kernel
theorem dX12_anew_1 : decode cX12_anew 1 = .ok (.getfield 51, 3) := by decide +kernel
theorem dX12_anew_4 : decode cX12_anew 4 = .ok (.iconst 0, 1) := by decide +kernel
theorem dX12_anew_5 : decode cX12_anew 5 = .ok (.iconst 0, 1) := by decide +kernel
theorem dX12_anew_6 : decode cX12_anew 6 = .ok (.iastore, 1) := by decide +kernel
theorem dX12_anew_7 : decode cX12_anew 7 = .ok (.aload_n 0, 1) := by decide +kernel
theorem dX12_anew_8 : decode cX12_anew 8 = .ok (.getfield 41, 3) := by decide +kernel
theorem dX12_anew_11 : decode cX12_anew 11 = .ok (.getfield 72, 3) := by decide +kernel
theorem dX12_anew_14 : decode cX12_anew 14 = .ok (.iconst 0, 1) := by decide +kernel
theorem dX12_anew_15 : decode cX12_anew 15 = .ok (.aload_n 0, 1) := by decide +kernel
theorem dX12_anew_16 : decode cX12_anew 16 = .ok (.getfield 51, 3) := by decide +kernel
theorem dX12_anew_19 : decode cX12_anew 19 = .ok (.iconst 1, 1) := by decide +kernel
theorem dX12_anew_20 : decode cX12_anew 20 = .ok (.bipush 48, 2) := by decide +kernel
theorem dX12_anew_22 : decode cX12_anew 22 = .ok (.invokestatic 75, 3) := by decide +kernel
theorem dX12_anew_25 : decode cX12_anew 25 = .ok (.iconst 0, 1) := by decide +kernel
theorem dX12_anew_26 : decode cX12_anew 26 = .ok (.istore_n 1, 1) := by decide +kernel
theorem dX12_anew_27 : decode cX12_anew 27 = .ok (.iload_n 1, 1) := by decide +kernel
theorem dX12_anew_28 : decode cX12_anew 28 = .ok (.bipush 6, 2) := by decide +kernel
theorem dX12_anew_30 : decode cX12_anew 30 = .ok (.if_icmp .ge 19, 3) := by decide +kernel
theorem dX12_anew_33 : decode cX12_anew 33 = .ok (.aload_n 0, 1) := by decide +kernel
theorem dX12_anew_34 : decode cX12_anew 34 = .ok (.getfield 51, 3) := by decide +kernel
theorem dX12_anew_37 : decode cX12_anew 37 = .ok (.bipush 49, 2) := by decide +kernel
theorem dX12_anew_39 : decode cX12_anew 39 = .ok (.iload_n 1, 1) := by decide +kernel
theorem dX12_anew_40 : decode cX12_anew 40 = .ok (.iadd, 1) := by decide +kernel
theorem dX12_anew_41 : decode cX12_anew 41 = .ok (.iconst (-1), 1) := by decide +kernel
theorem dX12_anew_42 : decode cX12_anew 42 = .ok (.iastore, 1) := by decide +kernel
theorem dX12_anew_43 : decode cX12_anew 43 = .ok (.iinc 1 1, 3) := by decide +kernel
theorem dX12_anew_46 : decode cX12_anew 46 = .ok (.goto (-19), 3) := by decide +kernel
theorem dX12_anew_49 : decode cX12_anew 49 = .ok (.aload_n 0, 1) := by decide +kernel
theorem dX12_anew_50 : decode cX12_anew 50 = .ok (.getfield 41, 3) := by decide +kernel
theorem dX12_anew_53 : decode cX12_anew 53 = .ok (.getfield 81, 3) := by decide +kernel
theorem dX12_anew_56 : decode cX12_anew 56 = .ok (.iconst 0, 1) := by decide +kernel
theorem dX12_anew_57 : decode cX12_anew 57 = .ok (.aload_n 0, 1) := by decide +kernel
theorem dX12_anew_58 : decode cX12_anew 58 = .ok (.getfield 51, 3) := by decide +kernel
theorem dX12_anew_61 : decode cX12_anew 61 = .ok (.bipush 55, 2) := by decide +kernel
theorem dX12_anew_63 : decode cX12_anew 63 = .ok (.bipush 6, 2) := by decide +kernel
theorem dX12_anew_65 : decode cX12_anew 65 = .ok (.invokestatic 75, 3) := by decide +kernel
theorem dX12_anew_68 : decode cX12_anew 68 = .ok (.return_, 1) := by decide +kernel
section T
variable {G : GT} {d : Nat} {S : List Value} {h : AH} {P : OC → AH → Prop} {x0 x1 x2 x3 x4 x5 x6 x7 x8 x9 x10 x11 x12 x13 x14 x15 : Option Value}
theorem tX12_anew_0 {k : Nat} (r : RQ G mX12_anew d 1 [some (.ref k), x1] (.ref k :: S) (h) P) : RQ G mX12_anew d 0 [some (.ref k), x1] (S) h P := q_aload_n (M := mX12_anew) (pc := 0) (r0 := some k) dX12_anew_0 rfl rfl r
theorem tX12_anew_1 {i : Nat} {vs : List Value} {v : Value} (ha : At h i (.inr (10, vs))) (hv : vs[20]? = some v) (r : RQ G mX12_anew d 4 [x0, x1] (v :: S) (h) P) : RQ G mX12_anew d 1 [x0, x1] (.ref i :: S) h P := q_get (M := mX12_anew) (pc := 1) (kf := 20) dX12_anew_1 (show CL[10]? = some (RX12, TX12, 25) from rfl) inA12 (by decide) rfl w1443 ha hv r
theorem tX12_anew_4 (r : RQ G mX12_anew d 5 [x0, x1] (.int (nI 0) :: S) (h) P) : RQ G mX12_anew d 4 [x0, x1] (S) h P := q_iconst (M := mX12_anew) (pc := 4) dX12_anew_4 (by decide) r
theorem tX12_anew_5 (r : RQ G mX12_anew d 6 [x0, x1] (.int (nI 0) :: S) (h) P) : RQ G mX12_anew d 5 [x0, x1] (S) h P := q_iconst (M := mX12_anew) (pc := 5) dX12_anew_5 (by decide) r
theorem tX12_anew_6 {a n j : Nat} {x : Int32} {v : Int32} {f : Nat → Int32} (ha : At h a (.inl (0, n, .inl f))) (hx : x = nI j) (hj : j < n) (hn : n < 2147483648) (r : RQ G mX12_anew d 7 [x0, x1] (S) (hset h a (.inl (0, n, .inl (upd f j v)))) P) : RQ G mX12_anew d 6 [x0, x1] (.int v :: .int x :: .ref a :: S) h P := q_iast (M := mX12_anew) (pc := 6) dX12_anew_6 ha hx hj hn r
theorem tX12_anew_7 {k : Nat} (r : RQ G mX12_anew d 8 [some (.ref k), x1] (.ref k :: S) (h) P) : RQ G mX12_anew d 7 [some (.ref k), x1] (S) h P := q_aload_n (M := mX12_anew) (pc := 7) (r0 := some k) dX12_anew_7 rfl rfl r
theorem tX12_anew_8 {i : Nat} {vs : List Value} {v : Value} (ha : At h i (.inr (10, vs))) (hv : vs[17]? = some v) (r : RQ G mX12_anew d 11 [x0, x1] (v :: S) (h) P) : RQ G mX12_anew d 8 [x0, x1] (.ref i :: S) h P := q_get (M := mX12_anew) (pc := 8) (kf := 17) dX12_anew_8 (show CL[10]? = some (RX12, TX12, 25) from rfl) inA12 (by decide) rfl w1440 ha hv r
theorem tX12_anew_11 {i : Nat} {vs : List Value} {v : Value} (ha : At h i (.inr (9, vs))) (hv : vs[4]? = some v) (r : RQ G mX12_anew d 14 [x0, x1] (v :: S) (h) P) : RQ G mX12_anew d 11 [x0, x1] (.ref i :: S) h P := q_getN (M := mX12_anew) (pc := 11) (kf := 4) dX12_anew_11 (show CL[9]? = some (RX11, TX11, 24) from rfl) inA11 (by decide) rfl v1328 ha hv r
theorem tX12_anew_14 (r : RQ G mX12_anew d 15 [x0, x1] (.int (nI 0) :: S) (h) P) : RQ G mX12_anew d 14 [x0, x1] (S) h P := q_iconst (M := mX12_anew) (pc := 14) dX12_anew_14 (by decide) r
theorem tX12_anew_15 {k : Nat} (r : RQ G mX12_anew d 16 [some (.ref k), x1] (.ref k :: S) (h) P) : RQ G mX12_anew d 15 [some (.ref k), x1] (S) h P := q_aload_n (M := mX12_anew) (pc := 15) (r0 := some k) dX12_anew_15 rfl rfl r
theorem tX12_anew_16 {i : Nat} {vs : List Value} {v : Value} (ha : At h i (.inr (10, vs))) (hv : vs[20]? = some v) (r : RQ G mX12_anew d 19 [x0, x1] (v :: S) (h) P) : RQ G mX12_anew d 16 [x0, x1] (.ref i :: S) h P := q_get (M := mX12_anew) (pc := 16) (kf := 20) dX12_anew_16 (show CL[10]? = some (RX12, TX12, 25) from rfl) inA12 (by decide) rfl w1443 ha hv r
theorem tX12_anew_19 (r : RQ G mX12_anew d 20 [x0, x1] (.int (nI 1) :: S) (h) P) : RQ G mX12_anew d 19 [x0, x1] (S) h P := q_iconst (M := mX12_anew) (pc := 19) dX12_anew_19 (by decide) r
theorem tX12_anew_20 (r : RQ G mX12_anew d 22 [x0, x1] (.int (nI 48) :: S) (h) P) : RQ G mX12_anew d 20 [x0, x1] (S) h P := q_bipush (M := mX12_anew) (pc := 20) dX12_anew_20 (by decide) r
theorem tX12_anew_22 {a0 a1 n0 n1 sp dp n : Nat} {xs xd xn : Int32} {f g : Nat → Int32} (hd : 2 ≤ d) (ha0 : At h a0 (.inl (0, n0, .inl f))) (ha1 : At h a1 (.inl (0, n1, .inl g))) (hxs : xs = nI sp) (hxd : xd = nI dp) (hxn : xn = nI n) (hb0 : sp + n ≤ n0) (hb1 : dp + n ≤ n1) (hn0 : n0 < 2147483648) (hn1 : n1 < 2147483648) (hst : (S.map fun v => v.category).sum ≤ 8 := by exact Nat.le_of_ble_eq_true rfl) (r : RQ G mX12_anew d 25 [x0, x1] (S) (hset h a1 (.inl (0, n1, .inl (va_cpy f g sp dp n)))) P) : RQ G mX12_anew d 22 [x0, x1] (.int xn :: .int xd :: .ref a1 :: .int xs :: .ref a0 :: S) h P := q_copy (M := mX12_anew) (pc := 22) dX12_anew_22 w1420 w1422 w1421 w122 hd hst ha0 ha1 hxs hxd hxn hb0 hb1 hn0 hn1 r
theorem tX12_anew_25 (r : RQ G mX12_anew d 26 [x0, x1] (.int (nI 0) :: S) (h) P) : RQ G mX12_anew d 25 [x0, x1] (S) h P := q_iconst (M := mX12_anew) (pc := 25) dX12_anew_25 (by decide) r
theorem tX12_anew_26 {v : Int32} (ho : ok1 x0 = true := by rfl) (r : RQ G mX12_anew d 27 [x0, some (.int v)] (S) (h) P) : RQ G mX12_anew d 26 [x0, x1] (.int v :: S) h P := q_istore_n (M := mX12_anew) (pc := 26) dX12_anew_26 rfl (Nat.le_of_ble_eq_true rfl) ho r
theorem tX12_anew_27 {v : Int32} (r : RQ G mX12_anew d 28 [x0, some (.int v)] (.int v :: S) (h) P) : RQ G mX12_anew d 27 [x0, some (.int v)] (S) h P := q_iload_n (M := mX12_anew) (pc := 27) dX12_anew_27 rfl rfl r
theorem tX12_anew_28 (r : RQ G mX12_anew d 30 [x0, x1] (.int (nI 6) :: S) (h) P) : RQ G mX12_anew d 28 [x0, x1] (S) h P := q_bipush (M := mX12_anew) (pc := 28) dX12_anew_28 (by decide) r
theorem tX12_anew_30 {x y : Int32} (kt : y ≤ x → RQ G mX12_anew d 49 [x0, x1] S h P) (kf : ¬ y ≤ x → RQ G mX12_anew d 33 [x0, x1] S h P) : RQ G mX12_anew d 30 [x0, x1] (.int y :: .int x :: S) h P := q_icmp_ge (M := mX12_anew) (pc := 30) dX12_anew_30 (by decide) kt kf
theorem tX12_anew_33 {k : Nat} (r : RQ G mX12_anew d 34 [some (.ref k), x1] (.ref k :: S) (h) P) : RQ G mX12_anew d 33 [some (.ref k), x1] (S) h P := q_aload_n (M := mX12_anew) (pc := 33) (r0 := some k) dX12_anew_33 rfl rfl r
theorem tX12_anew_34 {i : Nat} {vs : List Value} {v : Value} (ha : At h i (.inr (10, vs))) (hv : vs[20]? = some v) (r : RQ G mX12_anew d 37 [x0, x1] (v :: S) (h) P) : RQ G mX12_anew d 34 [x0, x1] (.ref i :: S) h P := q_get (M := mX12_anew) (pc := 34) (kf := 20) dX12_anew_34 (show CL[10]? = some (RX12, TX12, 25) from rfl) inA12 (by decide) rfl w1443 ha hv r
theorem tX12_anew_37 (r : RQ G mX12_anew d 39 [x0, x1] (.int (nI 49) :: S) (h) P) : RQ G mX12_anew d 37 [x0, x1] (S) h P := q_bipush (M := mX12_anew) (pc := 37) dX12_anew_37 (by decide) r
theorem tX12_anew_39 {v : Int32} (r : RQ G mX12_anew d 40 [x0, some (.int v)] (.int v :: S) (h) P) : RQ G mX12_anew d 39 [x0, some (.int v)] (S) h P := q_iload_n (M := mX12_anew) (pc := 39) dX12_anew_39 rfl rfl r
theorem tX12_anew_40 {x y : Int32} (r : RQ G mX12_anew d 41 [x0, x1] (.int (x + y) :: S) (h) P) : RQ G mX12_anew d 40 [x0, x1] (.int y :: .int x :: S) h P := q_iadd (M := mX12_anew) (pc := 40) dX12_anew_40 r
theorem tX12_anew_41 (r : RQ G mX12_anew d 42 [x0, x1] (.int (-1) :: S) (h) P) : RQ G mX12_anew d 41 [x0, x1] (S) h P := q_iconst (M := mX12_anew) (pc := 41) dX12_anew_41 (by decide) r
theorem tX12_anew_42 {a n j : Nat} {x : Int32} {v : Int32} {f : Nat → Int32} (ha : At h a (.inl (0, n, .inl f))) (hx : x = nI j) (hj : j < n) (hn : n < 2147483648) (r : RQ G mX12_anew d 43 [x0, x1] (S) (hset h a (.inl (0, n, .inl (upd f j v)))) P) : RQ G mX12_anew d 42 [x0, x1] (.int v :: .int x :: .ref a :: S) h P := q_iast (M := mX12_anew) (pc := 42) dX12_anew_42 ha hx hj hn r
theorem tX12_anew_43 {v : Int32} (ho : ok1 x0 = true := by rfl) (r : RQ G mX12_anew d 46 [x0, some (.int (v + (nI 1)))] (S) (h) P) : RQ G mX12_anew d 43 [x0, some (.int v)] (S) h P := q_iinc (M := mX12_anew) (pc := 43) dX12_anew_43 rfl (congrArg (v + ·) (show Int32.ofInt (1) = (nI 1) by decide)) (Nat.le_of_ble_eq_true rfl) ho r
theorem tX12_anew_46 (r : RQ G mX12_anew d 27 [x0, x1] S h P) : RQ G mX12_anew d 46 [x0, x1] (S) h P := q_goto (M := mX12_anew) (pc := 46) dX12_anew_46 (by decide) r
theorem tX12_anew_49 {k : Nat} (r : RQ G mX12_anew d 50 [some (.ref k), x1] (.ref k :: S) (h) P) : RQ G mX12_anew d 49 [some (.ref k), x1] (S) h P := q_aload_n (M := mX12_anew) (pc := 49) (r0 := some k) dX12_anew_49 rfl rfl r
theorem tX12_anew_50 {i : Nat} {vs : List Value} {v : Value} (ha : At h i (.inr (10, vs))) (hv : vs[17]? = some v) (r : RQ G mX12_anew d 53 [x0, x1] (v :: S) (h) P) : RQ G mX12_anew d 50 [x0, x1] (.ref i :: S) h P := q_get (M := mX12_anew) (pc := 50) (kf := 17) dX12_anew_50 (show CL[10]? = some (RX12, TX12, 25) from rfl) inA12 (by decide) rfl w1440 ha hv r
theorem tX12_anew_53 {i : Nat} {vs : List Value} {v : Value} (ha : At h i (.inr (9, vs))) (hv : vs[6]? = some v) (r : RQ G mX12_anew d 56 [x0, x1] (v :: S) (h) P) : RQ G mX12_anew d 53 [x0, x1] (.ref i :: S) h P := q_getN (M := mX12_anew) (pc := 53) (kf := 6) dX12_anew_53 (show CL[9]? = some (RX11, TX11, 24) from rfl) inA11 (by decide) rfl v1332 ha hv r
theorem tX12_anew_56 (r : RQ G mX12_anew d 57 [x0, x1] (.int (nI 0) :: S) (h) P) : RQ G mX12_anew d 56 [x0, x1] (S) h P := q_iconst (M := mX12_anew) (pc := 56) dX12_anew_56 (by decide) r
theorem tX12_anew_57 {k : Nat} (r : RQ G mX12_anew d 58 [some (.ref k), x1] (.ref k :: S) (h) P) : RQ G mX12_anew d 57 [some (.ref k), x1] (S) h P := q_aload_n (M := mX12_anew) (pc := 57) (r0 := some k) dX12_anew_57 rfl rfl r
theorem tX12_anew_58 {i : Nat} {vs : List Value} {v : Value} (ha : At h i (.inr (10, vs))) (hv : vs[20]? = some v) (r : RQ G mX12_anew d 61 [x0, x1] (v :: S) (h) P) : RQ G mX12_anew d 58 [x0, x1] (.ref i :: S) h P := q_get (M := mX12_anew) (pc := 58) (kf := 20) dX12_anew_58 (show CL[10]? = some (RX12, TX12, 25) from rfl) inA12 (by decide) rfl w1443 ha hv r
theorem tX12_anew_61 (r : RQ G mX12_anew d 63 [x0, x1] (.int (nI 55) :: S) (h) P) : RQ G mX12_anew d 61 [x0, x1] (S) h P := q_bipush (M := mX12_anew) (pc := 61) dX12_anew_61 (by decide) r
theorem tX12_anew_63 (r : RQ G mX12_anew d 65 [x0, x1] (.int (nI 6) :: S) (h) P) : RQ G mX12_anew d 63 [x0, x1] (S) h P := q_bipush (M := mX12_anew) (pc := 63) dX12_anew_63 (by decide) r
theorem tX12_anew_65 {a0 a1 n0 n1 sp dp n : Nat} {xs xd xn : Int32} {f g : Nat → Int32} (hd : 2 ≤ d) (ha0 : At h a0 (.inl (0, n0, .inl f))) (ha1 : At h a1 (.inl (0, n1, .inl g))) (hxs : xs = nI sp) (hxd : xd = nI dp) (hxn : xn = nI n) (hb0 : sp + n ≤ n0) (hb1 : dp + n ≤ n1) (hn0 : n0 < 2147483648) (hn1 : n1 < 2147483648) (hst : (S.map fun v => v.category).sum ≤ 8 := by exact Nat.le_of_ble_eq_true rfl) (r : RQ G mX12_anew d 68 [x0, x1] (S) (hset h a1 (.inl (0, n1, .inl (va_cpy f g sp dp n)))) P) : RQ G mX12_anew d 65 [x0, x1] (.int xn :: .int xd :: .ref a1 :: .int xs :: .ref a0 :: S) h P := q_copy (M := mX12_anew) (pc := 65) dX12_anew_65 w1420 w1422 w1421 w122 hd hst ha0 ha1 hxs hxd hxn hb0 hb1 hn0 hn1 r
theorem tX12_anew_68 (hP : P (.inl none) h) : RQ G mX12_anew d 68 [x0, x1] ([]) h P := q_return (M := mX12_anew) (pc := 68) dX12_anew_68 rfl hP
end T
theorem dX12_isLetter_0 : decode cX12_isLetter 0 = .ok (.iload_n 0, 1) := by decide +kernel
theorem dX12_isLetter_1 : decode cX12_isLetter 1 = .ok (.bipush 97, 2) := by decide +kernel
theorem dX12_isLetter_3 : decode cX12_isLetter 3 = .ok (.bipush 122, 2) := by decide +kernel
theorem dX12_isLetter_5 : decode cX12_isLetter 5 = .ok (.invokestatic 84, 3) := by decide +kernel
theorem dX12_isLetter_8 : decode cX12_isLetter 8 = .ok (.ireturn, 1) := by decide +kernel
section T
variable {G : GT} {d : Nat} {S : List Value} {h : AH} {P : OC → AH → Prop} {x0 x1 x2 x3 x4 x5 x6 x7 x8 x9 x10 x11 x12 x13 x14 x15 : Option Value}
theorem tX12_isLetter_0 {v : Int32} (r : RQ G mX12_isLetter d 1 [some (.int v)] (.int v :: S) (h) P) : RQ G mX12_isLetter d 0 [some (.int v)] (S) h P := q_iload_n (M := mX12_isLetter) (pc := 0) dX12_isLetter_0 rfl rfl r
theorem tX12_isLetter_1 (r : RQ G mX12_isLetter d 3 [x0] (.int (nI 97) :: S) (h) P) : RQ G mX12_isLetter d 1 [x0] (S) h P := q_bipush (M := mX12_isLetter) (pc := 1) dX12_isLetter_1 (by decide) r
theorem tX12_isLetter_3 (r : RQ G mX12_isLetter d 5 [x0] (.int (nI 122) :: S) (h) P) : RQ G mX12_isLetter d 3 [x0] (S) h P := q_bipush (M := mX12_isLetter) (pc := 3) dX12_isLetter_3 (by decide) r
theorem tX12_isLetter_5 {d2 : Nat} {a0 : Int32} {a1 : Int32} {a2 : Int32} {Q : Int32 → AH → Prop} (hd : d2 + 1 ≤ d) (call : RQ G mX12_isIn d2 0 [some (.int a0), some (.int a1), some (.int a2)] [] h (Ri Q)) (k : ∀ x h1, Q x h1 → RQ G mX12_isLetter d 8 [x0] (.int x :: S) h1 P) (hst : (S.map fun v => v.category).sum ≤ 8 := by exact Nat.le_of_ble_eq_true rfl)  : RQ G mX12_isLetter d 5 [x0] (.int a2 :: .int a1 :: .int a0 :: S) h P := q_callS (M := mX12_isLetter) (pc := 5) (M2 := mX12_isIn) (As := [.int a0, .int a1, .int a2]) (n := 3) dX12_isLetter_5 ⟨by decide, by decide, by decide, rfl⟩ rfl w1515 w1516 w120 w1517 hd (by decide) (Nat.le_of_ble_eq_true rfl) rfl hst call (callk_i k)
theorem tX12_isLetter_8 {x : Int32} (hb : x = nI 0 ∨ x = nI 1) (hP : P (.inl (some (.int x))) h) : RQ G mX12_isLetter d 8 [x0] ([.int x]) h P := q_ireturn (M := mX12_isLetter) (pc := 8) (ty := .boolean) dX12_isLetter_8 rfl (nar_bool hb) hP
end T
theorem dX12_isDigit_0 : decode cX12_isDigit 0 = .ok (.iload_n 0, 1) := by decide +kernel
theorem dX12_isDigit_1 : decode cX12_isDigit 1 = .ok (.bipush 48, 2) := by decide +kernel
theorem dX12_isDigit_3 : decode cX12_isDigit 3 = .ok (.bipush 57, 2) := by decide +kernel
theorem dX12_isDigit_5 : decode cX12_isDigit 5 = .ok (.invokestatic 84, 3) := by decide +kernel
theorem dX12_isDigit_8 : decode cX12_isDigit 8 = .ok (.ireturn, 1) := by decide +kernel
section T
variable {G : GT} {d : Nat} {S : List Value} {h : AH} {P : OC → AH → Prop} {x0 x1 x2 x3 x4 x5 x6 x7 x8 x9 x10 x11 x12 x13 x14 x15 : Option Value}
theorem tX12_isDigit_0 {v : Int32} (r : RQ G mX12_isDigit d 1 [some (.int v)] (.int v :: S) (h) P) : RQ G mX12_isDigit d 0 [some (.int v)] (S) h P := q_iload_n (M := mX12_isDigit) (pc := 0) dX12_isDigit_0 rfl rfl r
theorem tX12_isDigit_1 (r : RQ G mX12_isDigit d 3 [x0] (.int (nI 48) :: S) (h) P) : RQ G mX12_isDigit d 1 [x0] (S) h P := q_bipush (M := mX12_isDigit) (pc := 1) dX12_isDigit_1 (by decide) r
theorem tX12_isDigit_3 (r : RQ G mX12_isDigit d 5 [x0] (.int (nI 57) :: S) (h) P) : RQ G mX12_isDigit d 3 [x0] (S) h P := q_bipush (M := mX12_isDigit) (pc := 3) dX12_isDigit_3 (by decide) r
theorem tX12_isDigit_5 {d2 : Nat} {a0 : Int32} {a1 : Int32} {a2 : Int32} {Q : Int32 → AH → Prop} (hd : d2 + 1 ≤ d) (call : RQ G mX12_isIn d2 0 [some (.int a0), some (.int a1), some (.int a2)] [] h (Ri Q)) (k : ∀ x h1, Q x h1 → RQ G mX12_isDigit d 8 [x0] (.int x :: S) h1 P) (hst : (S.map fun v => v.category).sum ≤ 8 := by exact Nat.le_of_ble_eq_true rfl)  : RQ G mX12_isDigit d 5 [x0] (.int a2 :: .int a1 :: .int a0 :: S) h P := q_callS (M := mX12_isDigit) (pc := 5) (M2 := mX12_isIn) (As := [.int a0, .int a1, .int a2]) (n := 3) dX12_isDigit_5 ⟨by decide, by decide, by decide, rfl⟩ rfl w1515 w1516 w120 w1517 hd (by decide) (Nat.le_of_ble_eq_true rfl) rfl hst call (callk_i k)
theorem tX12_isDigit_8 {x : Int32} (hb : x = nI 0 ∨ x = nI 1) (hP : P (.inl (some (.int x))) h) : RQ G mX12_isDigit d 8 [x0] ([.int x]) h P := q_ireturn (M := mX12_isDigit) (pc := 8) (ty := .boolean) dX12_isDigit_8 rfl (nar_bool hb) hP
end T
theorem dX12_byteAt_0 : decode cX12_byteAt 0 = .ok (.iload_n 1, 1) := by decide +kernel
theorem dX12_byteAt_1 : decode cX12_byteAt 1 = .ok (.aload_n 0, 1) := by decide +kernel
theorem dX12_byteAt_2 : decode cX12_byteAt 2 = .ok (.getfield 88, 3) := by decide +kernel
theorem dX12_byteAt_5 : decode cX12_byteAt 5 = .ok (.if_icmp .ge 12, 3) := by decide +kernel
theorem dX12_byteAt_8 : decode cX12_byteAt 8 = .ok (.aload_n 0, 1) := by decide +kernel
theorem dX12_byteAt_9 : decode cX12_byteAt 9 = .ok (.getfield 9, 3) := by decide +kernel
theorem dX12_byteAt_12 : decode cX12_byteAt 12 = .ok (.iload_n 1, 1) := by decide +kernel
theorem dX12_byteAt_13 : decode cX12_byteAt 13 = .ok (.iaload, 1) := by decide +kernel
theorem dX12_byteAt_14 : decode cX12_byteAt 14 = .ok (.goto 4, 3) := by decide +kernel
theorem dX12_byteAt_17 : decode cX12_byteAt 17 = .ok (.iconst (-1), 1) := by decide +kernel
theorem dX12_byteAt_18 : decode cX12_byteAt 18 = .ok (.ireturn, 1) := by decide +kernel
section T
variable {G : GT} {d : Nat} {S : List Value} {h : AH} {P : OC → AH → Prop} {x0 x1 x2 x3 x4 x5 x6 x7 x8 x9 x10 x11 x12 x13 x14 x15 : Option Value}
theorem tX12_byteAt_0 {v : Int32} (r : RQ G mX12_byteAt d 1 [x0, some (.int v)] (.int v :: S) (h) P) : RQ G mX12_byteAt d 0 [x0, some (.int v)] (S) h P := q_iload_n (M := mX12_byteAt) (pc := 0) dX12_byteAt_0 rfl rfl r
theorem tX12_byteAt_1 {k : Nat} (r : RQ G mX12_byteAt d 2 [some (.ref k), x1] (.ref k :: S) (h) P) : RQ G mX12_byteAt d 1 [some (.ref k), x1] (S) h P := q_aload_n (M := mX12_byteAt) (pc := 1) (r0 := some k) dX12_byteAt_1 rfl rfl r
theorem tX12_byteAt_2 {i : Nat} {vs : List Value} {v : Value} (ha : At h i (.inr (10, vs))) (hv : vs[2]? = some v) (r : RQ G mX12_byteAt d 5 [x0, x1] (v :: S) (h) P) : RQ G mX12_byteAt d 2 [x0, x1] (.ref i :: S) h P := q_get (M := mX12_byteAt) (pc := 2) (kf := 2) dX12_byteAt_2 (show CL[10]? = some (RX12, TX12, 25) from rfl) inA12 (by decide) rfl w1425 ha hv r
theorem tX12_byteAt_5 {x y : Int32} (kt : y ≤ x → RQ G mX12_byteAt d 17 [x0, x1] S h P) (kf : ¬ y ≤ x → RQ G mX12_byteAt d 8 [x0, x1] S h P) : RQ G mX12_byteAt d 5 [x0, x1] (.int y :: .int x :: S) h P := q_icmp_ge (M := mX12_byteAt) (pc := 5) dX12_byteAt_5 (by decide) kt kf
theorem tX12_byteAt_8 {k : Nat} (r : RQ G mX12_byteAt d 9 [some (.ref k), x1] (.ref k :: S) (h) P) : RQ G mX12_byteAt d 8 [some (.ref k), x1] (S) h P := q_aload_n (M := mX12_byteAt) (pc := 8) (r0 := some k) dX12_byteAt_8 rfl rfl r
theorem tX12_byteAt_9 {i : Nat} {vs : List Value} {v : Value} (ha : At h i (.inr (10, vs))) (hv : vs[1]? = some v) (r : RQ G mX12_byteAt d 12 [x0, x1] (v :: S) (h) P) : RQ G mX12_byteAt d 9 [x0, x1] (.ref i :: S) h P := q_get (M := mX12_byteAt) (pc := 9) (kf := 1) dX12_byteAt_9 (show CL[10]? = some (RX12, TX12, 25) from rfl) inA12 (by decide) rfl w1424 ha hv r
theorem tX12_byteAt_12 {v : Int32} (r : RQ G mX12_byteAt d 13 [x0, some (.int v)] (.int v :: S) (h) P) : RQ G mX12_byteAt d 12 [x0, some (.int v)] (S) h P := q_iload_n (M := mX12_byteAt) (pc := 12) dX12_byteAt_12 rfl rfl r
theorem tX12_byteAt_13 {a n j : Nat} {x : Int32} {f : Nat → Int32} (ha : At h a (.inl (0, n, .inl f))) (hx : x = nI j) (hj : j < n) (hn : n < 2147483648) (r : RQ G mX12_byteAt d 14 [x0, x1] (.int (f j) :: S) (h) P) : RQ G mX12_byteAt d 13 [x0, x1] (.int x :: .ref a :: S) h P := q_iald (M := mX12_byteAt) (pc := 13) dX12_byteAt_13 ha hx hj hn r
theorem tX12_byteAt_14 (r : RQ G mX12_byteAt d 18 [x0, x1] S h P) : RQ G mX12_byteAt d 14 [x0, x1] (S) h P := q_goto (M := mX12_byteAt) (pc := 14) dX12_byteAt_14 (by decide) r
theorem tX12_byteAt_17 (r : RQ G mX12_byteAt d 18 [x0, x1] (.int (-1) :: S) (h) P) : RQ G mX12_byteAt d 17 [x0, x1] (S) h P := q_iconst (M := mX12_byteAt) (pc := 17) dX12_byteAt_17 (by decide) r
theorem tX12_byteAt_18 {x : Int32} (hP : P (.inl (some (.int x))) h) : RQ G mX12_byteAt d 18 [x0, x1] ([.int x]) h P := q_ireturn (M := mX12_byteAt) (pc := 18) (ty := .int) dX12_byteAt_18 rfl rfl hP
end T
theorem dX12_isWord_0 : decode cX12_isWord 0 = .ok (.aload_n 3, 1) := by decide +kernel
theorem dX12_isWord_1 : decode cX12_isWord 1 = .ok (.invokevirtual 91, 3) := by decide +kernel
theorem dX12_isWord_4 : decode cX12_isWord 4 = .ok (.iload_n 2, 1) := by decide +kernel
theorem dX12_isWord_5 : decode cX12_isWord 5 = .ok (.if_icmp .eq 5, 3) := by decide +kernel
theorem dX12_isWord_8 : decode cX12_isWord 8 = .ok (.iconst 0, 1) := by decide +kernel
theorem dX12_isWord_9 : decode cX12_isWord 9 = .ok (.ireturn, 1) := by decide +kernel
theorem dX12_isWord_10 : decode cX12_isWord 10 = .ok (.iconst 0, 1) := by decide +kernel
theorem dX12_isWord_11 : decode cX12_isWord 11 = .ok (.istore 4, 2) := by decide +kernel
theorem dX12_isWord_13 : decode cX12_isWord 13 = .ok (.iload 4, 2) := by decide +kernel
theorem dX12_isWord_15 : decode cX12_isWord 15 = .ok (.iload_n 2, 1) := by decide +kernel
theorem dX12_isWord_16 : decode cX12_isWord 16 = .ok (.if_icmp .ge 29, 3) := by decide +kernel
theorem dX12_isWord_19 : decode cX12_isWord 19 = .ok (.aload_n 3, 1) := by decide +kernel
theorem dX12_isWord_20 : decode cX12_isWord 20 = .ok (.iload 4, 2) := by decide +kernel
theorem dX12_isWord_22 : decode cX12_isWord 22 = .ok (.invokevirtual 96, 3) := by decide +kernel
theorem dX12_isWord_25 : decode cX12_isWord 25 = .ok (.aload_n 0, 1) := by decide +kernel
theorem dX12_isWord_26 : decode cX12_isWord 26 = .ok (.getfield 9, 3) := by decide +kernel
theorem dX12_isWord_29 : decode cX12_isWord 29 = .ok (.iload_n 1, 1) := by decide +kernel
theorem dX12_isWord_30 : decode cX12_isWord 30 = .ok (.iload 4, 2) := by decide +kernel
theorem dX12_isWord_32 : decode cX12_isWord 32 = .ok (.iadd, 1) := by decide +kernel
theorem dX12_isWord_33 : decode cX12_isWord 33 = .ok (.iaload, 1) := by decide +kernel
theorem dX12_isWord_34 : decode cX12_isWord 34 = .ok (.if_icmp .eq 5, 3) := by decide +kernel
theorem dX12_isWord_37 : decode cX12_isWord 37 = .ok (.iconst 0, 1) := by decide +kernel
theorem dX12_isWord_38 : decode cX12_isWord 38 = .ok (.ireturn, 1) := by decide +kernel
theorem dX12_isWord_39 : decode cX12_isWord 39 = .ok (.iinc 4 1, 3) := by decide +kernel
theorem dX12_isWord_42 : decode cX12_isWord 42 = .ok (.goto (-29), 3) := by decide +kernel
theorem dX12_isWord_45 : decode cX12_isWord 45 = .ok (.iconst 1, 1) := by decide +kernel
theorem dX12_isWord_46 : decode cX12_isWord 46 = .ok (.ireturn, 1) := by decide +kernel
section T
variable {G : GT} {d : Nat} {S : List Value} {h : AH} {P : OC → AH → Prop} {x0 x1 x2 x3 x4 x5 x6 x7 x8 x9 x10 x11 x12 x13 x14 x15 : Option Value}
theorem tX12_isWord_0 {k : Nat} (r : RQ G mX12_isWord d 1 [x0, x1, x2, some (.ref k), x4] (.ref k :: S) (h) P) : RQ G mX12_isWord d 0 [x0, x1, x2, some (.ref k), x4] (S) h P := q_aload_n (M := mX12_isWord) (pc := 0) (r0 := some k) dX12_isWord_0 rfl rfl r
theorem tX12_isWord_4 {v : Int32} (r : RQ G mX12_isWord d 5 [x0, x1, some (.int v), x3, x4] (.int v :: S) (h) P) : RQ G mX12_isWord d 4 [x0, x1, some (.int v), x3, x4] (S) h P := q_iload_n (M := mX12_isWord) (pc := 4) dX12_isWord_4 rfl rfl r
theorem tX12_isWord_5 {x y : Int32} (kt : x = y → RQ G mX12_isWord d 10 [x0, x1, x2, x3, x4] S h P) (kf : ¬ x = y → RQ G mX12_isWord d 8 [x0, x1, x2, x3, x4] S h P) : RQ G mX12_isWord d 5 [x0, x1, x2, x3, x4] (.int y :: .int x :: S) h P := q_icmp_eq (M := mX12_isWord) (pc := 5) dX12_isWord_5 (by decide) kt kf
theorem tX12_isWord_8 (r : RQ G mX12_isWord d 9 [x0, x1, x2, x3, x4] (.int (nI 0) :: S) (h) P) : RQ G mX12_isWord d 8 [x0, x1, x2, x3, x4] (S) h P := q_iconst (M := mX12_isWord) (pc := 8) dX12_isWord_8 (by decide) r
theorem tX12_isWord_9 {x : Int32} (hb : x = nI 0 ∨ x = nI 1) (hP : P (.inl (some (.int x))) h) : RQ G mX12_isWord d 9 [x0, x1, x2, x3, x4] ([.int x]) h P := q_ireturn (M := mX12_isWord) (pc := 9) (ty := .boolean) dX12_isWord_9 rfl (nar_bool hb) hP
theorem tX12_isWord_10 (r : RQ G mX12_isWord d 11 [x0, x1, x2, x3, x4] (.int (nI 0) :: S) (h) P) : RQ G mX12_isWord d 10 [x0, x1, x2, x3, x4] (S) h P := q_iconst (M := mX12_isWord) (pc := 10) dX12_isWord_10 (by decide) r
theorem tX12_isWord_11 {v : Int32} (ho : ok1 x3 = true := by rfl) (r : RQ G mX12_isWord d 13 [x0, x1, x2, x3, some (.int v)] (S) (h) P) : RQ G mX12_isWord d 11 [x0, x1, x2, x3, x4] (.int v :: S) h P := q_istore (M := mX12_isWord) (pc := 11) dX12_isWord_11 (Nat.le_of_ble_eq_true rfl) ho r
theorem tX12_isWord_13 {v : Int32} (r : RQ G mX12_isWord d 15 [x0, x1, x2, x3, some (.int v)] (.int v :: S) (h) P) : RQ G mX12_isWord d 13 [x0, x1, x2, x3, some (.int v)] (S) h P := q_iload (M := mX12_isWord) (pc := 13) dX12_isWord_13 rfl r
theorem tX12_isWord_15 {v : Int32} (r : RQ G mX12_isWord d 16 [x0, x1, some (.int v), x3, x4] (.int v :: S) (h) P) : RQ G mX12_isWord d 15 [x0, x1, some (.int v), x3, x4] (S) h P := q_iload_n (M := mX12_isWord) (pc := 15) dX12_isWord_15 rfl rfl r
theorem tX12_isWord_16 {x y : Int32} (kt : y ≤ x → RQ G mX12_isWord d 45 [x0, x1, x2, x3, x4] S h P) (kf : ¬ y ≤ x → RQ G mX12_isWord d 19 [x0, x1, x2, x3, x4] S h P) : RQ G mX12_isWord d 16 [x0, x1, x2, x3, x4] (.int y :: .int x :: S) h P := q_icmp_ge (M := mX12_isWord) (pc := 16) dX12_isWord_16 (by decide) kt kf
theorem tX12_isWord_19 {k : Nat} (r : RQ G mX12_isWord d 20 [x0, x1, x2, some (.ref k), x4] (.ref k :: S) (h) P) : RQ G mX12_isWord d 19 [x0, x1, x2, some (.ref k), x4] (S) h P := q_aload_n (M := mX12_isWord) (pc := 19) (r0 := some k) dX12_isWord_19 rfl rfl r
theorem tX12_isWord_20 {v : Int32} (r : RQ G mX12_isWord d 22 [x0, x1, x2, x3, some (.int v)] (.int v :: S) (h) P) : RQ G mX12_isWord d 20 [x0, x1, x2, x3, some (.int v)] (S) h P := q_iload (M := mX12_isWord) (pc := 20) dX12_isWord_20 rfl r
theorem tX12_isWord_25 {k : Nat} (r : RQ G mX12_isWord d 26 [some (.ref k), x1, x2, x3, x4] (.ref k :: S) (h) P) : RQ G mX12_isWord d 25 [some (.ref k), x1, x2, x3, x4] (S) h P := q_aload_n (M := mX12_isWord) (pc := 25) (r0 := some k) dX12_isWord_25 rfl rfl r
theorem tX12_isWord_26 {i : Nat} {vs : List Value} {v : Value} (ha : At h i (.inr (10, vs))) (hv : vs[1]? = some v) (r : RQ G mX12_isWord d 29 [x0, x1, x2, x3, x4] (v :: S) (h) P) : RQ G mX12_isWord d 26 [x0, x1, x2, x3, x4] (.ref i :: S) h P := q_get (M := mX12_isWord) (pc := 26) (kf := 1) dX12_isWord_26 (show CL[10]? = some (RX12, TX12, 25) from rfl) inA12 (by decide) rfl w1424 ha hv r
theorem tX12_isWord_29 {v : Int32} (r : RQ G mX12_isWord d 30 [x0, some (.int v), x2, x3, x4] (.int v :: S) (h) P) : RQ G mX12_isWord d 29 [x0, some (.int v), x2, x3, x4] (S) h P := q_iload_n (M := mX12_isWord) (pc := 29) dX12_isWord_29 rfl rfl r
theorem tX12_isWord_30 {v : Int32} (r : RQ G mX12_isWord d 32 [x0, x1, x2, x3, some (.int v)] (.int v :: S) (h) P) : RQ G mX12_isWord d 30 [x0, x1, x2, x3, some (.int v)] (S) h P := q_iload (M := mX12_isWord) (pc := 30) dX12_isWord_30 rfl r
theorem tX12_isWord_32 {x y : Int32} (r : RQ G mX12_isWord d 33 [x0, x1, x2, x3, x4] (.int (x + y) :: S) (h) P) : RQ G mX12_isWord d 32 [x0, x1, x2, x3, x4] (.int y :: .int x :: S) h P := q_iadd (M := mX12_isWord) (pc := 32) dX12_isWord_32 r
theorem tX12_isWord_33 {a n j : Nat} {x : Int32} {f : Nat → Int32} (ha : At h a (.inl (0, n, .inl f))) (hx : x = nI j) (hj : j < n) (hn : n < 2147483648) (r : RQ G mX12_isWord d 34 [x0, x1, x2, x3, x4] (.int (f j) :: S) (h) P) : RQ G mX12_isWord d 33 [x0, x1, x2, x3, x4] (.int x :: .ref a :: S) h P := q_iald (M := mX12_isWord) (pc := 33) dX12_isWord_33 ha hx hj hn r
theorem tX12_isWord_34 {x y : Int32} (kt : x = y → RQ G mX12_isWord d 39 [x0, x1, x2, x3, x4] S h P) (kf : ¬ x = y → RQ G mX12_isWord d 37 [x0, x1, x2, x3, x4] S h P) : RQ G mX12_isWord d 34 [x0, x1, x2, x3, x4] (.int y :: .int x :: S) h P := q_icmp_eq (M := mX12_isWord) (pc := 34) dX12_isWord_34 (by decide) kt kf
theorem tX12_isWord_37 (r : RQ G mX12_isWord d 38 [x0, x1, x2, x3, x4] (.int (nI 0) :: S) (h) P) : RQ G mX12_isWord d 37 [x0, x1, x2, x3, x4] (S) h P := q_iconst (M := mX12_isWord) (pc := 37) dX12_isWord_37 (by decide) r
theorem tX12_isWord_38 {x : Int32} (hb : x = nI 0 ∨ x = nI 1) (hP : P (.inl (some (.int x))) h) : RQ G mX12_isWord d 38 [x0, x1, x2, x3, x4] ([.int x]) h P := q_ireturn (M := mX12_isWord) (pc := 38) (ty := .boolean) dX12_isWord_38 rfl (nar_bool hb) hP
theorem tX12_isWord_39 {v : Int32} (ho : ok1 x3 = true := by rfl) (r : RQ G mX12_isWord d 42 [x0, x1, x2, x3, some (.int (v + (nI 1)))] (S) (h) P) : RQ G mX12_isWord d 39 [x0, x1, x2, x3, some (.int v)] (S) h P := q_iinc (M := mX12_isWord) (pc := 39) dX12_isWord_39 rfl (congrArg (v + ·) (show Int32.ofInt (1) = (nI 1) by decide)) (Nat.le_of_ble_eq_true rfl) ho r
theorem tX12_isWord_42 (r : RQ G mX12_isWord d 13 [x0, x1, x2, x3, x4] S h P) : RQ G mX12_isWord d 42 [x0, x1, x2, x3, x4] (S) h P := q_goto (M := mX12_isWord) (pc := 42) dX12_isWord_42 (by decide) r
theorem tX12_isWord_45 (r : RQ G mX12_isWord d 46 [x0, x1, x2, x3, x4] (.int (nI 1) :: S) (h) P) : RQ G mX12_isWord d 45 [x0, x1, x2, x3, x4] (S) h P := q_iconst (M := mX12_isWord) (pc := 45) dX12_isWord_45 (by decide) r
theorem tX12_isWord_46 {x : Int32} (hb : x = nI 0 ∨ x = nI 1) (hP : P (.inl (some (.int x))) h) : RQ G mX12_isWord d 46 [x0, x1, x2, x3, x4] ([.int x]) h P := q_ireturn (M := mX12_isWord) (pc := 46) (ty := .boolean) dX12_isWord_46 rfl (nar_bool hb) hP
end T
theorem dX12_keyword_0 : decode cX12_keyword 0 = .ok (.iconst 0, 1) := by decide +kernel
theorem dX12_keyword_1 : decode cX12_keyword 1 = .ok (.istore_n 3, 1) := by decide +kernel
theorem dX12_keyword_2 : decode cX12_keyword 2 = .ok (.iload_n 3, 1) := by decide +kernel
theorem dX12_keyword_3 : decode cX12_keyword 3 = .ok (.getstatic 100, 3) := by decide +kernel
theorem dX12_keyword_6 : decode cX12_keyword 6 = .ok (.arraylength, 1) := by decide +kernel
theorem dX12_keyword_7 : decode cX12_keyword 7 = .ok (.if_icmp .ge 25, 3) := by decide +kernel
theorem dX12_keyword_10 : decode cX12_keyword 10 = .ok (.aload_n 0, 1) := by decide +kernel
theorem dX12_keyword_11 : decode cX12_keyword 11 = .ok (.iload_n 1, 1) := by decide +kernel
theorem dX12_keyword_12 : decode cX12_keyword 12 = .ok (.iload_n 2, 1) := by decide +kernel
theorem dX12_keyword_13 : decode cX12_keyword 13 = .ok (.getstatic 100, 3) := by decide +kernel
theorem dX12_keyword_16 : decode cX12_keyword 16 = .ok (.iload_n 3, 1) := by decide +kernel
theorem dX12_keyword_17 : decode cX12_keyword 17 = .ok (.aaload, 1) := by decide +kernel
theorem dX12_keyword_18 : decode cX12_keyword 18 = .ok (.invokevirtual 104, 3) := by decide +kernel
theorem dX12_keyword_21 : decode cX12_keyword 21 = .ok (.ifCond .eq 5, 3) := by decide +kernel
theorem dX12_keyword_24 : decode cX12_keyword 24 = .ok (.iload_n 3, 1) := by decide +kernel
theorem dX12_keyword_25 : decode cX12_keyword 25 = .ok (.ireturn, 1) := by decide +kernel
theorem dX12_keyword_26 : decode cX12_keyword 26 = .ok (.iinc 3 1, 3) := by decide +kernel
theorem dX12_keyword_29 : decode cX12_keyword 29 = .ok (.goto (-27), 3) := by decide +kernel
theorem dX12_keyword_32 : decode cX12_keyword 32 = .ok (.iload_n 2, 1) := by decide +kernel
theorem dX12_keyword_33 : decode cX12_keyword 33 = .ok (.bipush 8, 2) := by decide +kernel
theorem dX12_keyword_35 : decode cX12_keyword 35 = .ok (.if_icmp .le 8, 3) := by decide +kernel
theorem dX12_keyword_38 : decode cX12_keyword 38 = .ok (.bipush 32, 2) := by decide +kernel
theorem dX12_keyword_40 : decode cX12_keyword 40 = .ok (.goto 5, 3) := by decide +kernel
theorem dX12_keyword_43 : decode cX12_keyword 43 = .ok (.bipush 30, 2) := by decide +kernel
theorem dX12_keyword_45 : decode cX12_keyword 45 = .ok (.ireturn, 1) := by decide +kernel
section T
variable {G : GT} {d : Nat} {S : List Value} {h : AH} {P : OC → AH → Prop} {x0 x1 x2 x3 x4 x5 x6 x7 x8 x9 x10 x11 x12 x13 x14 x15 : Option Value}
theorem tX12_keyword_0 (r : RQ G mX12_keyword d 1 [x0, x1, x2, x3] (.int (nI 0) :: S) (h) P) : RQ G mX12_keyword d 0 [x0, x1, x2, x3] (S) h P := q_iconst (M := mX12_keyword) (pc := 0) dX12_keyword_0 (by decide) r
theorem tX12_keyword_1 {v : Int32} (ho : ok1 x2 = true := by rfl) (r : RQ G mX12_keyword d 2 [x0, x1, x2, some (.int v)] (S) (h) P) : RQ G mX12_keyword d 1 [x0, x1, x2, x3] (.int v :: S) h P := q_istore_n (M := mX12_keyword) (pc := 1) dX12_keyword_1 rfl (Nat.le_of_ble_eq_true rfl) ho r
theorem tX12_keyword_2 {v : Int32} (r : RQ G mX12_keyword d 3 [x0, x1, x2, some (.int v)] (.int v :: S) (h) P) : RQ G mX12_keyword d 2 [x0, x1, x2, some (.int v)] (S) h P := q_iload_n (M := mX12_keyword) (pc := 2) dX12_keyword_2 rfl rfl r
theorem tX12_keyword_7 {x y : Int32} (kt : y ≤ x → RQ G mX12_keyword d 32 [x0, x1, x2, x3] S h P) (kf : ¬ y ≤ x → RQ G mX12_keyword d 10 [x0, x1, x2, x3] S h P) : RQ G mX12_keyword d 7 [x0, x1, x2, x3] (.int y :: .int x :: S) h P := q_icmp_ge (M := mX12_keyword) (pc := 7) dX12_keyword_7 (by decide) kt kf
theorem tX12_keyword_10 {k : Nat} (r : RQ G mX12_keyword d 11 [some (.ref k), x1, x2, x3] (.ref k :: S) (h) P) : RQ G mX12_keyword d 10 [some (.ref k), x1, x2, x3] (S) h P := q_aload_n (M := mX12_keyword) (pc := 10) (r0 := some k) dX12_keyword_10 rfl rfl r
theorem tX12_keyword_11 {v : Int32} (r : RQ G mX12_keyword d 12 [x0, some (.int v), x2, x3] (.int v :: S) (h) P) : RQ G mX12_keyword d 11 [x0, some (.int v), x2, x3] (S) h P := q_iload_n (M := mX12_keyword) (pc := 11) dX12_keyword_11 rfl rfl r
theorem tX12_keyword_12 {v : Int32} (r : RQ G mX12_keyword d 13 [x0, x1, some (.int v), x3] (.int v :: S) (h) P) : RQ G mX12_keyword d 12 [x0, x1, some (.int v), x3] (S) h P := q_iload_n (M := mX12_keyword) (pc := 12) dX12_keyword_12 rfl rfl r
theorem tX12_keyword_16 {v : Int32} (r : RQ G mX12_keyword d 17 [x0, x1, x2, some (.int v)] (.int v :: S) (h) P) : RQ G mX12_keyword d 16 [x0, x1, x2, some (.int v)] (S) h P := q_iload_n (M := mX12_keyword) (pc := 16) dX12_keyword_16 rfl rfl r
theorem tX12_keyword_18 {b d2 : Nat} {vs : List Value} {a0 : Int32} {a1 : Int32} {a2 : Nat} {Q : Int32 → AH → Prop} (hd : d2 + 1 ≤ d) (ha : At h b (.inr (10, vs))) (call : RQ G mX12_isWord d2 0 [some (.ref b), some (.int a0), some (.int a1), some (.ref a2), none] [] h (Ri Q)) (k : ∀ x h1, Q x h1 → RQ G mX12_keyword d 21 [x0, x1, x2, x3] (.int x :: S) h1 P) (hst : (S.map fun v => v.category).sum ≤ 8 := by exact Nat.le_of_ble_eq_true rfl)  : RQ G mX12_keyword d 18 [x0, x1, x2, x3] (.ref a2 :: .int a1 :: .int a0 :: .ref b :: S) h P := q_callV (M := mX12_keyword) (pc := 18) (M2 := mX12_isWord) (As := [.int a0, .int a1, .ref a2]) (n := 3) dX12_keyword_18 rfl ⟨by decide, by decide, by decide, rfl⟩ rfl w1551 w1553 w47 w120 w1554 (show CL[10]? = some (RX12, TX12, 25) from rfl) hd (by decide) (Nat.le_of_ble_eq_true rfl) rfl ha hst call (callk_i k)
theorem tX12_keyword_21 {x : Int32} (kt : x = 0 → RQ G mX12_keyword d 26 [x0, x1, x2, x3] S h P) (kf : ¬ x = 0 → RQ G mX12_keyword d 24 [x0, x1, x2, x3] S h P) : RQ G mX12_keyword d 21 [x0, x1, x2, x3] (.int x :: S) h P := q_if_eq (M := mX12_keyword) (pc := 21) dX12_keyword_21 (by decide) kt kf
theorem tX12_keyword_24 {v : Int32} (r : RQ G mX12_keyword d 25 [x0, x1, x2, some (.int v)] (.int v :: S) (h) P) : RQ G mX12_keyword d 24 [x0, x1, x2, some (.int v)] (S) h P := q_iload_n (M := mX12_keyword) (pc := 24) dX12_keyword_24 rfl rfl r
theorem tX12_keyword_25 {x : Int32} (hP : P (.inl (some (.int x))) h) : RQ G mX12_keyword d 25 [x0, x1, x2, x3] ([.int x]) h P := q_ireturn (M := mX12_keyword) (pc := 25) (ty := .int) dX12_keyword_25 rfl rfl hP
theorem tX12_keyword_26 {v : Int32} (ho : ok1 x2 = true := by rfl) (r : RQ G mX12_keyword d 29 [x0, x1, x2, some (.int (v + (nI 1)))] (S) (h) P) : RQ G mX12_keyword d 26 [x0, x1, x2, some (.int v)] (S) h P := q_iinc (M := mX12_keyword) (pc := 26) dX12_keyword_26 rfl (congrArg (v + ·) (show Int32.ofInt (1) = (nI 1) by decide)) (Nat.le_of_ble_eq_true rfl) ho r
theorem tX12_keyword_29 (r : RQ G mX12_keyword d 2 [x0, x1, x2, x3] S h P) : RQ G mX12_keyword d 29 [x0, x1, x2, x3] (S) h P := q_goto (M := mX12_keyword) (pc := 29) dX12_keyword_29 (by decide) r
theorem tX12_keyword_32 {v : Int32} (r : RQ G mX12_keyword d 33 [x0, x1, some (.int v), x3] (.int v :: S) (h) P) : RQ G mX12_keyword d 32 [x0, x1, some (.int v), x3] (S) h P := q_iload_n (M := mX12_keyword) (pc := 32) dX12_keyword_32 rfl rfl r
theorem tX12_keyword_33 (r : RQ G mX12_keyword d 35 [x0, x1, x2, x3] (.int (nI 8) :: S) (h) P) : RQ G mX12_keyword d 33 [x0, x1, x2, x3] (S) h P := q_bipush (M := mX12_keyword) (pc := 33) dX12_keyword_33 (by decide) r
theorem tX12_keyword_35 {x y : Int32} (kt : x ≤ y → RQ G mX12_keyword d 43 [x0, x1, x2, x3] S h P) (kf : ¬ x ≤ y → RQ G mX12_keyword d 38 [x0, x1, x2, x3] S h P) : RQ G mX12_keyword d 35 [x0, x1, x2, x3] (.int y :: .int x :: S) h P := q_icmp_le (M := mX12_keyword) (pc := 35) dX12_keyword_35 (by decide) kt kf
theorem tX12_keyword_38 (r : RQ G mX12_keyword d 40 [x0, x1, x2, x3] (.int (nI 32) :: S) (h) P) : RQ G mX12_keyword d 38 [x0, x1, x2, x3] (S) h P := q_bipush (M := mX12_keyword) (pc := 38) dX12_keyword_38 (by decide) r
theorem tX12_keyword_40 (r : RQ G mX12_keyword d 45 [x0, x1, x2, x3] S h P) : RQ G mX12_keyword d 40 [x0, x1, x2, x3] (S) h P := q_goto (M := mX12_keyword) (pc := 40) dX12_keyword_40 (by decide) r
theorem tX12_keyword_43 (r : RQ G mX12_keyword d 45 [x0, x1, x2, x3] (.int (nI 30) :: S) (h) P) : RQ G mX12_keyword d 43 [x0, x1, x2, x3] (S) h P := q_bipush (M := mX12_keyword) (pc := 43) dX12_keyword_43 (by decide) r
theorem tX12_keyword_45 {x : Int32} (hP : P (.inl (some (.int x))) h) : RQ G mX12_keyword d 45 [x0, x1, x2, x3] ([.int x]) h P := q_ireturn (M := mX12_keyword) (pc := 45) (ty := .int) dX12_keyword_45 rfl rfl hP
end T
theorem dX12_sign_0 : decode cX12_sign 0 = .ok (.iload_n 0, 1) := by decide +kernel
theorem dX12_sign_1 : decode cX12_sign 1 = .ok (.lookupswitch 143 #[(40, 107), (41, 110), (42, 131), (43, 125), (44, 122), (45, 128), (59, 119), (60, 134), (61, 140), (62, 137), (91, 113), (93, 116)], 107) := by decide +kernel
theorem dX12_sign_108 : decode cX12_sign 108 = .ok (.bipush 46, 2) := by decide +kernel
theorem dX12_sign_110 : decode cX12_sign 110 = .ok (.ireturn, 1) := by decide +kernel
theorem dX12_sign_111 : decode cX12_sign 111 = .ok (.bipush 47, 2) := by decide +kernel
theorem dX12_sign_113 : decode cX12_sign 113 = .ok (.ireturn, 1) := by decide +kernel
theorem dX12_sign_114 : decode cX12_sign 114 = .ok (.bipush 48, 2) := by decide +kernel
theorem dX12_sign_116 : decode cX12_sign 116 = .ok (.ireturn, 1) := by decide +kernel
theorem dX12_sign_117 : decode cX12_sign 117 = .ok (.bipush 49, 2) := by decide +kernel
theorem dX12_sign_119 : decode cX12_sign 119 = .ok (.ireturn, 1) := by decide +kernel
theorem dX12_sign_120 : decode cX12_sign 120 = .ok (.bipush 50, 2) := by decide +kernel
theorem dX12_sign_122 : decode cX12_sign 122 = .ok (.ireturn, 1) := by decide +kernel
theorem dX12_sign_123 : decode cX12_sign 123 = .ok (.bipush 51, 2) := by decide +kernel
theorem dX12_sign_125 : decode cX12_sign 125 = .ok (.ireturn, 1) := by decide +kernel
theorem dX12_sign_126 : decode cX12_sign 126 = .ok (.bipush 40, 2) := by decide +kernel
theorem dX12_sign_128 : decode cX12_sign 128 = .ok (.ireturn, 1) := by decide +kernel
theorem dX12_sign_129 : decode cX12_sign 129 = .ok (.bipush 41, 2) := by decide +kernel
theorem dX12_sign_131 : decode cX12_sign 131 = .ok (.ireturn, 1) := by decide +kernel
theorem dX12_sign_132 : decode cX12_sign 132 = .ok (.bipush 42, 2) := by decide +kernel
theorem dX12_sign_134 : decode cX12_sign 134 = .ok (.ireturn, 1) := by decide +kernel
theorem dX12_sign_135 : decode cX12_sign 135 = .ok (.bipush 43, 2) := by decide +kernel
theorem dX12_sign_137 : decode cX12_sign 137 = .ok (.ireturn, 1) := by decide +kernel
theorem dX12_sign_138 : decode cX12_sign 138 = .ok (.bipush 44, 2) := by decide +kernel
theorem dX12_sign_140 : decode cX12_sign 140 = .ok (.ireturn, 1) := by decide +kernel
theorem dX12_sign_141 : decode cX12_sign 141 = .ok (.bipush 45, 2) := by decide +kernel
theorem dX12_sign_143 : decode cX12_sign 143 = .ok (.ireturn, 1) := by decide +kernel
theorem dX12_sign_144 : decode cX12_sign 144 = .ok (.bipush 32, 2) := by decide +kernel
theorem dX12_sign_146 : decode cX12_sign 146 = .ok (.ireturn, 1) := by decide +kernel
section T
variable {G : GT} {d : Nat} {S : List Value} {h : AH} {P : OC → AH → Prop} {x0 x1 x2 x3 x4 x5 x6 x7 x8 x9 x10 x11 x12 x13 x14 x15 : Option Value}
theorem tX12_sign_0 {v : Int32} (r : RQ G mX12_sign d 1 [some (.int v)] (.int v :: S) (h) P) : RQ G mX12_sign d 0 [some (.int v)] (S) h P := q_iload_n (M := mX12_sign) (pc := 0) dX12_sign_0 rfl rfl r
theorem tX12_sign_108 (r : RQ G mX12_sign d 110 [x0] (.int (nI 46) :: S) (h) P) : RQ G mX12_sign d 108 [x0] (S) h P := q_bipush (M := mX12_sign) (pc := 108) dX12_sign_108 (by decide) r
theorem tX12_sign_110 {x : Int32} (hP : P (.inl (some (.int x))) h) : RQ G mX12_sign d 110 [x0] ([.int x]) h P := q_ireturn (M := mX12_sign) (pc := 110) (ty := .int) dX12_sign_110 rfl rfl hP
theorem tX12_sign_111 (r : RQ G mX12_sign d 113 [x0] (.int (nI 47) :: S) (h) P) : RQ G mX12_sign d 111 [x0] (S) h P := q_bipush (M := mX12_sign) (pc := 111) dX12_sign_111 (by decide) r
theorem tX12_sign_113 {x : Int32} (hP : P (.inl (some (.int x))) h) : RQ G mX12_sign d 113 [x0] ([.int x]) h P := q_ireturn (M := mX12_sign) (pc := 113) (ty := .int) dX12_sign_113 rfl rfl hP
theorem tX12_sign_114 (r : RQ G mX12_sign d 116 [x0] (.int (nI 48) :: S) (h) P) : RQ G mX12_sign d 114 [x0] (S) h P := q_bipush (M := mX12_sign) (pc := 114) dX12_sign_114 (by decide) r
theorem tX12_sign_116 {x : Int32} (hP : P (.inl (some (.int x))) h) : RQ G mX12_sign d 116 [x0] ([.int x]) h P := q_ireturn (M := mX12_sign) (pc := 116) (ty := .int) dX12_sign_116 rfl rfl hP
theorem tX12_sign_117 (r : RQ G mX12_sign d 119 [x0] (.int (nI 49) :: S) (h) P) : RQ G mX12_sign d 117 [x0] (S) h P := q_bipush (M := mX12_sign) (pc := 117) dX12_sign_117 (by decide) r
theorem tX12_sign_119 {x : Int32} (hP : P (.inl (some (.int x))) h) : RQ G mX12_sign d 119 [x0] ([.int x]) h P := q_ireturn (M := mX12_sign) (pc := 119) (ty := .int) dX12_sign_119 rfl rfl hP
theorem tX12_sign_120 (r : RQ G mX12_sign d 122 [x0] (.int (nI 50) :: S) (h) P) : RQ G mX12_sign d 120 [x0] (S) h P := q_bipush (M := mX12_sign) (pc := 120) dX12_sign_120 (by decide) r
theorem tX12_sign_122 {x : Int32} (hP : P (.inl (some (.int x))) h) : RQ G mX12_sign d 122 [x0] ([.int x]) h P := q_ireturn (M := mX12_sign) (pc := 122) (ty := .int) dX12_sign_122 rfl rfl hP
theorem tX12_sign_123 (r : RQ G mX12_sign d 125 [x0] (.int (nI 51) :: S) (h) P) : RQ G mX12_sign d 123 [x0] (S) h P := q_bipush (M := mX12_sign) (pc := 123) dX12_sign_123 (by decide) r
theorem tX12_sign_125 {x : Int32} (hP : P (.inl (some (.int x))) h) : RQ G mX12_sign d 125 [x0] ([.int x]) h P := q_ireturn (M := mX12_sign) (pc := 125) (ty := .int) dX12_sign_125 rfl rfl hP
theorem tX12_sign_126 (r : RQ G mX12_sign d 128 [x0] (.int (nI 40) :: S) (h) P) : RQ G mX12_sign d 126 [x0] (S) h P := q_bipush (M := mX12_sign) (pc := 126) dX12_sign_126 (by decide) r
theorem tX12_sign_128 {x : Int32} (hP : P (.inl (some (.int x))) h) : RQ G mX12_sign d 128 [x0] ([.int x]) h P := q_ireturn (M := mX12_sign) (pc := 128) (ty := .int) dX12_sign_128 rfl rfl hP
theorem tX12_sign_129 (r : RQ G mX12_sign d 131 [x0] (.int (nI 41) :: S) (h) P) : RQ G mX12_sign d 129 [x0] (S) h P := q_bipush (M := mX12_sign) (pc := 129) dX12_sign_129 (by decide) r
theorem tX12_sign_131 {x : Int32} (hP : P (.inl (some (.int x))) h) : RQ G mX12_sign d 131 [x0] ([.int x]) h P := q_ireturn (M := mX12_sign) (pc := 131) (ty := .int) dX12_sign_131 rfl rfl hP
theorem tX12_sign_132 (r : RQ G mX12_sign d 134 [x0] (.int (nI 42) :: S) (h) P) : RQ G mX12_sign d 132 [x0] (S) h P := q_bipush (M := mX12_sign) (pc := 132) dX12_sign_132 (by decide) r
theorem tX12_sign_134 {x : Int32} (hP : P (.inl (some (.int x))) h) : RQ G mX12_sign d 134 [x0] ([.int x]) h P := q_ireturn (M := mX12_sign) (pc := 134) (ty := .int) dX12_sign_134 rfl rfl hP
theorem tX12_sign_135 (r : RQ G mX12_sign d 137 [x0] (.int (nI 43) :: S) (h) P) : RQ G mX12_sign d 135 [x0] (S) h P := q_bipush (M := mX12_sign) (pc := 135) dX12_sign_135 (by decide) r
theorem tX12_sign_137 {x : Int32} (hP : P (.inl (some (.int x))) h) : RQ G mX12_sign d 137 [x0] ([.int x]) h P := q_ireturn (M := mX12_sign) (pc := 137) (ty := .int) dX12_sign_137 rfl rfl hP
theorem tX12_sign_138 (r : RQ G mX12_sign d 140 [x0] (.int (nI 44) :: S) (h) P) : RQ G mX12_sign d 138 [x0] (S) h P := q_bipush (M := mX12_sign) (pc := 138) dX12_sign_138 (by decide) r
theorem tX12_sign_140 {x : Int32} (hP : P (.inl (some (.int x))) h) : RQ G mX12_sign d 140 [x0] ([.int x]) h P := q_ireturn (M := mX12_sign) (pc := 140) (ty := .int) dX12_sign_140 rfl rfl hP
theorem tX12_sign_141 (r : RQ G mX12_sign d 143 [x0] (.int (nI 45) :: S) (h) P) : RQ G mX12_sign d 141 [x0] (S) h P := q_bipush (M := mX12_sign) (pc := 141) dX12_sign_141 (by decide) r
theorem tX12_sign_143 {x : Int32} (hP : P (.inl (some (.int x))) h) : RQ G mX12_sign d 143 [x0] ([.int x]) h P := q_ireturn (M := mX12_sign) (pc := 143) (ty := .int) dX12_sign_143 rfl rfl hP
theorem tX12_sign_144 (r : RQ G mX12_sign d 146 [x0] (.int (nI 32) :: S) (h) P) : RQ G mX12_sign d 144 [x0] (S) h P := q_bipush (M := mX12_sign) (pc := 144) dX12_sign_144 (by decide) r
theorem tX12_sign_146 {x : Int32} (hP : P (.inl (some (.int x))) h) : RQ G mX12_sign d 146 [x0] ([.int x]) h P := q_ireturn (M := mX12_sign) (pc := 146) (ty := .int) dX12_sign_146 rfl rfl hP
end T
theorem dX12_read_0 : decode cX12_read 0 = .ok (.aload_n 0, 1) := by decide +kernel
theorem dX12_read_1 : decode cX12_read 1 = .ok (.getfield 9, 3) := by decide +kernel
theorem dX12_read_4 : decode cX12_read 4 = .ok (.iload_n 1, 1) := by decide +kernel
theorem dX12_read_5 : decode cX12_read 5 = .ok (.iaload, 1) := by decide +kernel
theorem dX12_read_6 : decode cX12_read 6 = .ok (.istore_n 3, 1) := by decide +kernel
theorem dX12_read_7 : decode cX12_read 7 = .ok (.iload_n 1, 1) := by decide +kernel
theorem dX12_read_8 : decode cX12_read 8 = .ok (.iconst 1, 1) := by decide +kernel
theorem dX12_read_9 : decode cX12_read 9 = .ok (.iadd, 1) := by decide +kernel
theorem dX12_read_10 : decode cX12_read 10 = .ok (.istore 4, 2) := by decide +kernel
theorem dX12_read_12 : decode cX12_read 12 = .ok (.aload_n 0, 1) := by decide +kernel
theorem dX12_read_13 : decode cX12_read 13 = .ok (.getfield 23, 3) := by decide +kernel
theorem dX12_read_16 : decode cX12_read 16 = .ok (.iload_n 2, 1) := by decide +kernel
theorem dX12_read_17 : decode cX12_read 17 = .ok (.iload_n 1, 1) := by decide +kernel
theorem dX12_read_18 : decode cX12_read 18 = .ok (.iastore, 1) := by decide +kernel
theorem dX12_read_19 : decode cX12_read 19 = .ok (.iload_n 3, 1) := by decide +kernel
theorem dX12_read_20 : decode cX12_read 20 = .ok (.invokestatic 108, 3) := by decide +kernel
theorem dX12_read_23 : decode cX12_read 23 = .ok (.ifCond .eq 39, 3) := by decide +kernel
theorem dX12_read_26 : decode cX12_read 26 = .ok (.aload_n 0, 1) := by decide +kernel
theorem dX12_read_27 : decode cX12_read 27 = .ok (.iload 4, 2) := by decide +kernel
theorem dX12_read_29 : decode cX12_read 29 = .ok (.invokevirtual 112, 3) := by decide +kernel
theorem dX12_read_32 : decode cX12_read 32 = .ok (.invokestatic 108, 3) := by decide +kernel
theorem dX12_read_35 : decode cX12_read 35 = .ok (.ifCond .eq 9, 3) := by decide +kernel
theorem dX12_read_38 : decode cX12_read 38 = .ok (.iinc 4 1, 3) := by decide +kernel
theorem dX12_read_41 : decode cX12_read 41 = .ok (.goto (-15), 3) := by decide +kernel
theorem dX12_read_44 : decode cX12_read 44 = .ok (.aload_n 0, 1) := by decide +kernel
theorem dX12_read_45 : decode cX12_read 45 = .ok (.getfield 17, 3) := by decide +kernel
theorem dX12_read_48 : decode cX12_read 48 = .ok (.iload_n 2, 1) := by decide +kernel
theorem dX12_read_49 : decode cX12_read 49 = .ok (.aload_n 0, 1) := by decide +kernel
theorem dX12_read_50 : decode cX12_read 50 = .ok (.iload_n 1, 1) := by decide +kernel
theorem dX12_read_51 : decode cX12_read 51 = .ok (.iload 4, 2) := by decide +kernel
theorem dX12_read_53 : decode cX12_read 53 = .ok (.iload_n 1, 1) := by decide +kernel
theorem dX12_read_54 : decode cX12_read 54 = .ok (.isub, 1) := by decide +kernel
theorem dX12_read_55 : decode cX12_read 55 = .ok (.invokevirtual 116, 3) := by decide +kernel
theorem dX12_read_58 : decode cX12_read 58 = .ok (.iastore, 1) := by decide +kernel
theorem dX12_read_59 : decode cX12_read 59 = .ok (.goto 106, 3) := by decide +kernel
theorem dX12_read_62 : decode cX12_read 62 = .ok (.iload_n 3, 1) := by decide +kernel
theorem dX12_read_63 : decode cX12_read 63 = .ok (.invokestatic 120, 3) := by decide +kernel
theorem dX12_read_66 : decode cX12_read 66 = .ok (.ifCond .eq 89, 3) := by decide +kernel
theorem dX12_read_69 : decode cX12_read 69 = .ok (.iload_n 3, 1) := by decide +kernel
theorem dX12_read_70 : decode cX12_read 70 = .ok (.bipush 48, 2) := by decide +kernel
theorem dX12_read_72 : decode cX12_read 72 = .ok (.isub, 1) := by decide +kernel
theorem dX12_read_73 : decode cX12_read 73 = .ok (.istore 5, 2) := by decide +kernel
theorem dX12_read_75 : decode cX12_read 75 = .ok (.aload_n 0, 1) := by decide +kernel
theorem dX12_read_76 : decode cX12_read 76 = .ok (.iload 4, 2) := by decide +kernel
theorem dX12_read_78 : decode cX12_read 78 = .ok (.invokevirtual 112, 3) := by decide +kernel
theorem dX12_read_81 : decode cX12_read 81 = .ok (.invokestatic 120, 3) := by decide +kernel
theorem dX12_read_84 : decode cX12_read 84 = .ok (.ifCond .eq 39, 3) := by decide +kernel
theorem dX12_read_87 : decode cX12_read 87 = .ok (.iload 4, 2) := by decide +kernel
theorem dX12_read_89 : decode cX12_read 89 = .ok (.iload_n 1, 1) := by decide +kernel
theorem dX12_read_90 : decode cX12_read 90 = .ok (.isub, 1) := by decide +kernel
theorem dX12_read_91 : decode cX12_read 91 = .ok (.iconst 5, 1) := by decide +kernel
theorem dX12_read_92 : decode cX12_read 92 = .ok (.if_icmp .ge 21, 3) := by decide +kernel
theorem dX12_read_95 : decode cX12_read 95 = .ok (.bipush 10, 2) := by decide +kernel
theorem dX12_read_97 : decode cX12_read 97 = .ok (.iload 5, 2) := by decide +kernel
theorem dX12_read_99 : decode cX12_read 99 = .ok (.imul, 1) := by decide +kernel
theorem dX12_read_100 : decode cX12_read 100 = .ok (.aload_n 0, 1) := by decide +kernel
theorem dX12_read_101 : decode cX12_read 101 = .ok (.iload 4, 2) := by decide +kernel
theorem dX12_read_103 : decode cX12_read 103 = .ok (.invokevirtual 112, 3) := by decide +kernel
theorem dX12_read_106 : decode cX12_read 106 = .ok (.iadd, 1) := by decide +kernel
theorem dX12_read_107 : decode cX12_read 107 = .ok (.bipush 48, 2) := by decide +kernel
theorem dX12_read_109 : decode cX12_read 109 = .ok (.isub, 1) := by decide +kernel
theorem dX12_read_110 : decode cX12_read 110 = .ok (.goto 5, 3) := by decide +kernel
theorem dX12_read_113 : decode cX12_read 113 = .ok (.iload 5, 2) := by decide +kernel
theorem dX12_read_115 : decode cX12_read 115 = .ok (.istore 5, 2) := by decide +kernel
theorem dX12_read_117 : decode cX12_read 117 = .ok (.iinc 4 1, 3) := by decide +kernel
theorem dX12_read_120 : decode cX12_read 120 = .ok (.goto (-45), 3) := by decide +kernel
theorem dX12_read_123 : decode cX12_read 123 = .ok (.aload_n 0, 1) := by decide +kernel
theorem dX12_read_124 : decode cX12_read 124 = .ok (.getfield 20, 3) := by decide +kernel
theorem dX12_read_127 : decode cX12_read 127 = .ok (.iload_n 2, 1) := by decide +kernel
theorem dX12_read_128 : decode cX12_read 128 = .ok (.iload 5, 2) := by decide +kernel
theorem dX12_read_130 : decode cX12_read 130 = .ok (.iastore, 1) := by decide +kernel
theorem dX12_read_131 : decode cX12_read 131 = .ok (.aload_n 0, 1) := by decide +kernel
theorem dX12_read_132 : decode cX12_read 132 = .ok (.getfield 17, 3) := by decide +kernel
theorem dX12_read_135 : decode cX12_read 135 = .ok (.iload_n 2, 1) := by decide +kernel
theorem dX12_read_136 : decode cX12_read 136 = .ok (.iload 4, 2) := by decide +kernel
theorem dX12_read_138 : decode cX12_read 138 = .ok (.iload_n 1, 1) := by decide +kernel
theorem dX12_read_139 : decode cX12_read 139 = .ok (.isub, 1) := by decide +kernel
theorem dX12_read_140 : decode cX12_read 140 = .ok (.iconst 4, 1) := by decide +kernel
theorem dX12_read_141 : decode cX12_read 141 = .ok (.if_icmp .le 8, 3) := by decide +kernel
theorem dX12_read_144 : decode cX12_read 144 = .ok (.bipush 32, 2) := by decide +kernel
theorem dX12_read_146 : decode cX12_read 146 = .ok (.goto 5, 3) := by decide +kernel
theorem dX12_read_149 : decode cX12_read 149 = .ok (.bipush 31, 2) := by decide +kernel
theorem dX12_read_151 : decode cX12_read 151 = .ok (.iastore, 1) := by decide +kernel
theorem dX12_read_152 : decode cX12_read 152 = .ok (.goto 13, 3) := by decide +kernel
theorem dX12_read_155 : decode cX12_read 155 = .ok (.aload_n 0, 1) := by decide +kernel
theorem dX12_read_156 : decode cX12_read 156 = .ok (.getfield 17, 3) := by decide +kernel
theorem dX12_read_159 : decode cX12_read 159 = .ok (.iload_n 2, 1) := by decide +kernel
theorem dX12_read_160 : decode cX12_read 160 = .ok (.iload_n 3, 1) := by decide +kernel
theorem dX12_read_161 : decode cX12_read 161 = .ok (.invokestatic 123, 3) := by decide +kernel
theorem dX12_read_164 : decode cX12_read 164 = .ok (.iastore, 1) := by decide +kernel
theorem dX12_read_165 : decode cX12_read 165 = .ok (.aload_n 0, 1) := by decide +kernel
theorem dX12_read_166 : decode cX12_read 166 = .ok (.getfield 26, 3) := by decide +kernel
theorem dX12_read_169 : decode cX12_read 169 = .ok (.iload_n 2, 1) := by decide +kernel
theorem dX12_read_170 : decode cX12_read 170 = .ok (.iload 4, 2) := by decide +kernel
theorem dX12_read_172 : decode cX12_read 172 = .ok (.iload_n 1, 1) := by decide +kernel
theorem dX12_read_173 : decode cX12_read 173 = .ok (.isub, 1) := by decide +kernel
theorem dX12_read_174 : decode cX12_read 174 = .ok (.iastore, 1) := by decide +kernel
theorem dX12_read_175 : decode cX12_read 175 = .ok (.iload 4, 2) := by decide +kernel
theorem dX12_read_177 : decode cX12_read 177 = .ok (.ireturn, 1) := by decide +kernel
section T
variable {G : GT} {d : Nat} {S : List Value} {h : AH} {P : OC → AH → Prop} {x0 x1 x2 x3 x4 x5 x6 x7 x8 x9 x10 x11 x12 x13 x14 x15 : Option Value}
theorem tX12_read_0 {k : Nat} (r : RQ G mX12_read d 1 [some (.ref k), x1, x2, x3, x4, x5] (.ref k :: S) (h) P) : RQ G mX12_read d 0 [some (.ref k), x1, x2, x3, x4, x5] (S) h P := q_aload_n (M := mX12_read) (pc := 0) (r0 := some k) dX12_read_0 rfl rfl r
theorem tX12_read_1 {i : Nat} {vs : List Value} {v : Value} (ha : At h i (.inr (10, vs))) (hv : vs[1]? = some v) (r : RQ G mX12_read d 4 [x0, x1, x2, x3, x4, x5] (v :: S) (h) P) : RQ G mX12_read d 1 [x0, x1, x2, x3, x4, x5] (.ref i :: S) h P := q_get (M := mX12_read) (pc := 1) (kf := 1) dX12_read_1 (show CL[10]? = some (RX12, TX12, 25) from rfl) inA12 (by decide) rfl w1424 ha hv r
theorem tX12_read_4 {v : Int32} (r : RQ G mX12_read d 5 [x0, some (.int v), x2, x3, x4, x5] (.int v :: S) (h) P) : RQ G mX12_read d 4 [x0, some (.int v), x2, x3, x4, x5] (S) h P := q_iload_n (M := mX12_read) (pc := 4) dX12_read_4 rfl rfl r
theorem tX12_read_5 {a n j : Nat} {x : Int32} {f : Nat → Int32} (ha : At h a (.inl (0, n, .inl f))) (hx : x = nI j) (hj : j < n) (hn : n < 2147483648) (r : RQ G mX12_read d 6 [x0, x1, x2, x3, x4, x5] (.int (f j) :: S) (h) P) : RQ G mX12_read d 5 [x0, x1, x2, x3, x4, x5] (.int x :: .ref a :: S) h P := q_iald (M := mX12_read) (pc := 5) dX12_read_5 ha hx hj hn r
theorem tX12_read_6 {v : Int32} (ho : ok1 x2 = true := by rfl) (r : RQ G mX12_read d 7 [x0, x1, x2, some (.int v), x4, x5] (S) (h) P) : RQ G mX12_read d 6 [x0, x1, x2, x3, x4, x5] (.int v :: S) h P := q_istore_n (M := mX12_read) (pc := 6) dX12_read_6 rfl (Nat.le_of_ble_eq_true rfl) ho r
theorem tX12_read_7 {v : Int32} (r : RQ G mX12_read d 8 [x0, some (.int v), x2, x3, x4, x5] (.int v :: S) (h) P) : RQ G mX12_read d 7 [x0, some (.int v), x2, x3, x4, x5] (S) h P := q_iload_n (M := mX12_read) (pc := 7) dX12_read_7 rfl rfl r
theorem tX12_read_8 (r : RQ G mX12_read d 9 [x0, x1, x2, x3, x4, x5] (.int (nI 1) :: S) (h) P) : RQ G mX12_read d 8 [x0, x1, x2, x3, x4, x5] (S) h P := q_iconst (M := mX12_read) (pc := 8) dX12_read_8 (by decide) r
theorem tX12_read_9 {x y : Int32} (r : RQ G mX12_read d 10 [x0, x1, x2, x3, x4, x5] (.int (x + y) :: S) (h) P) : RQ G mX12_read d 9 [x0, x1, x2, x3, x4, x5] (.int y :: .int x :: S) h P := q_iadd (M := mX12_read) (pc := 9) dX12_read_9 r
theorem tX12_read_10 {v : Int32} (ho : ok1 x3 = true := by rfl) (r : RQ G mX12_read d 12 [x0, x1, x2, x3, some (.int v), x5] (S) (h) P) : RQ G mX12_read d 10 [x0, x1, x2, x3, x4, x5] (.int v :: S) h P := q_istore (M := mX12_read) (pc := 10) dX12_read_10 (Nat.le_of_ble_eq_true rfl) ho r
theorem tX12_read_12 {k : Nat} (r : RQ G mX12_read d 13 [some (.ref k), x1, x2, x3, x4, x5] (.ref k :: S) (h) P) : RQ G mX12_read d 12 [some (.ref k), x1, x2, x3, x4, x5] (S) h P := q_aload_n (M := mX12_read) (pc := 12) (r0 := some k) dX12_read_12 rfl rfl r
theorem tX12_read_13 {i : Nat} {vs : List Value} {v : Value} (ha : At h i (.inr (10, vs))) (hv : vs[6]? = some v) (r : RQ G mX12_read d 16 [x0, x1, x2, x3, x4, x5] (v :: S) (h) P) : RQ G mX12_read d 13 [x0, x1, x2, x3, x4, x5] (.ref i :: S) h P := q_get (M := mX12_read) (pc := 13) (kf := 6) dX12_read_13 (show CL[10]? = some (RX12, TX12, 25) from rfl) inA12 (by decide) rfl w1429 ha hv r
theorem tX12_read_16 {v : Int32} (r : RQ G mX12_read d 17 [x0, x1, some (.int v), x3, x4, x5] (.int v :: S) (h) P) : RQ G mX12_read d 16 [x0, x1, some (.int v), x3, x4, x5] (S) h P := q_iload_n (M := mX12_read) (pc := 16) dX12_read_16 rfl rfl r
theorem tX12_read_17 {v : Int32} (r : RQ G mX12_read d 18 [x0, some (.int v), x2, x3, x4, x5] (.int v :: S) (h) P) : RQ G mX12_read d 17 [x0, some (.int v), x2, x3, x4, x5] (S) h P := q_iload_n (M := mX12_read) (pc := 17) dX12_read_17 rfl rfl r
theorem tX12_read_18 {a n j : Nat} {x : Int32} {v : Int32} {f : Nat → Int32} (ha : At h a (.inl (0, n, .inl f))) (hx : x = nI j) (hj : j < n) (hn : n < 2147483648) (r : RQ G mX12_read d 19 [x0, x1, x2, x3, x4, x5] (S) (hset h a (.inl (0, n, .inl (upd f j v)))) P) : RQ G mX12_read d 18 [x0, x1, x2, x3, x4, x5] (.int v :: .int x :: .ref a :: S) h P := q_iast (M := mX12_read) (pc := 18) dX12_read_18 ha hx hj hn r
theorem tX12_read_19 {v : Int32} (r : RQ G mX12_read d 20 [x0, x1, x2, some (.int v), x4, x5] (.int v :: S) (h) P) : RQ G mX12_read d 19 [x0, x1, x2, some (.int v), x4, x5] (S) h P := q_iload_n (M := mX12_read) (pc := 19) dX12_read_19 rfl rfl r
theorem tX12_read_20 {d2 : Nat} {a0 : Int32} {Q : Int32 → AH → Prop} (hd : d2 + 1 ≤ d) (call : RQ G mX12_isLetter d2 0 [some (.int a0)] [] h (Ri Q)) (k : ∀ x h1, Q x h1 → RQ G mX12_read d 23 [x0, x1, x2, x3, x4, x5] (.int x :: S) h1 P) (hst : (S.map fun v => v.category).sum ≤ 8 := by exact Nat.le_of_ble_eq_true rfl)  : RQ G mX12_read d 20 [x0, x1, x2, x3, x4, x5] (.int a0 :: S) h P := q_callS (M := mX12_read) (pc := 20) (M2 := mX12_isLetter) (As := [.int a0]) (n := 1) dX12_read_20 ⟨by decide, by decide, by decide, rfl⟩ rfl w1542 w1543 w120 w1544 hd (by decide) (Nat.le_of_ble_eq_true rfl) rfl hst call (callk_i k)
theorem tX12_read_23 {x : Int32} (kt : x = 0 → RQ G mX12_read d 62 [x0, x1, x2, x3, x4, x5] S h P) (kf : ¬ x = 0 → RQ G mX12_read d 26 [x0, x1, x2, x3, x4, x5] S h P) : RQ G mX12_read d 23 [x0, x1, x2, x3, x4, x5] (.int x :: S) h P := q_if_eq (M := mX12_read) (pc := 23) dX12_read_23 (by decide) kt kf
theorem tX12_read_26 {k : Nat} (r : RQ G mX12_read d 27 [some (.ref k), x1, x2, x3, x4, x5] (.ref k :: S) (h) P) : RQ G mX12_read d 26 [some (.ref k), x1, x2, x3, x4, x5] (S) h P := q_aload_n (M := mX12_read) (pc := 26) (r0 := some k) dX12_read_26 rfl rfl r
theorem tX12_read_27 {v : Int32} (r : RQ G mX12_read d 29 [x0, x1, x2, x3, some (.int v), x5] (.int v :: S) (h) P) : RQ G mX12_read d 27 [x0, x1, x2, x3, some (.int v), x5] (S) h P := q_iload (M := mX12_read) (pc := 27) dX12_read_27 rfl r
theorem tX12_read_29 {b d2 : Nat} {vs : List Value} {a0 : Int32} {Q : Int32 → AH → Prop} (hd : d2 + 1 ≤ d) (ha : At h b (.inr (10, vs))) (call : RQ G mX12_byteAt d2 0 [some (.ref b), some (.int a0)] [] h (Ri Q)) (k : ∀ x h1, Q x h1 → RQ G mX12_read d 32 [x0, x1, x2, x3, x4, x5] (.int x :: S) h1 P) (hst : (S.map fun v => v.category).sum ≤ 8 := by exact Nat.le_of_ble_eq_true rfl)  : RQ G mX12_read d 29 [x0, x1, x2, x3, x4, x5] (.int a0 :: .ref b :: S) h P := q_callV (M := mX12_read) (pc := 29) (M2 := mX12_byteAt) (As := [.int a0]) (n := 1) dX12_read_29 rfl ⟨by decide, by decide, by decide, rfl⟩ rfl w1534 w1536 w44 w120 w1537 (show CL[10]? = some (RX12, TX12, 25) from rfl) hd (by decide) (Nat.le_of_ble_eq_true rfl) rfl ha hst call (callk_i k)
theorem tX12_read_32 {d2 : Nat} {a0 : Int32} {Q : Int32 → AH → Prop} (hd : d2 + 1 ≤ d) (call : RQ G mX12_isLetter d2 0 [some (.int a0)] [] h (Ri Q)) (k : ∀ x h1, Q x h1 → RQ G mX12_read d 35 [x0, x1, x2, x3, x4, x5] (.int x :: S) h1 P) (hst : (S.map fun v => v.category).sum ≤ 8 := by exact Nat.le_of_ble_eq_true rfl)  : RQ G mX12_read d 32 [x0, x1, x2, x3, x4, x5] (.int a0 :: S) h P := q_callS (M := mX12_read) (pc := 32) (M2 := mX12_isLetter) (As := [.int a0]) (n := 1) dX12_read_32 ⟨by decide, by decide, by decide, rfl⟩ rfl w1542 w1543 w120 w1544 hd (by decide) (Nat.le_of_ble_eq_true rfl) rfl hst call (callk_i k)
theorem tX12_read_35 {x : Int32} (kt : x = 0 → RQ G mX12_read d 44 [x0, x1, x2, x3, x4, x5] S h P) (kf : ¬ x = 0 → RQ G mX12_read d 38 [x0, x1, x2, x3, x4, x5] S h P) : RQ G mX12_read d 35 [x0, x1, x2, x3, x4, x5] (.int x :: S) h P := q_if_eq (M := mX12_read) (pc := 35) dX12_read_35 (by decide) kt kf
theorem tX12_read_38 {v : Int32} (ho : ok1 x3 = true := by rfl) (r : RQ G mX12_read d 41 [x0, x1, x2, x3, some (.int (v + (nI 1))), x5] (S) (h) P) : RQ G mX12_read d 38 [x0, x1, x2, x3, some (.int v), x5] (S) h P := q_iinc (M := mX12_read) (pc := 38) dX12_read_38 rfl (congrArg (v + ·) (show Int32.ofInt (1) = (nI 1) by decide)) (Nat.le_of_ble_eq_true rfl) ho r
theorem tX12_read_41 (r : RQ G mX12_read d 26 [x0, x1, x2, x3, x4, x5] S h P) : RQ G mX12_read d 41 [x0, x1, x2, x3, x4, x5] (S) h P := q_goto (M := mX12_read) (pc := 41) dX12_read_41 (by decide) r
theorem tX12_read_44 {k : Nat} (r : RQ G mX12_read d 45 [some (.ref k), x1, x2, x3, x4, x5] (.ref k :: S) (h) P) : RQ G mX12_read d 44 [some (.ref k), x1, x2, x3, x4, x5] (S) h P := q_aload_n (M := mX12_read) (pc := 44) (r0 := some k) dX12_read_44 rfl rfl r
theorem tX12_read_45 {i : Nat} {vs : List Value} {v : Value} (ha : At h i (.inr (10, vs))) (hv : vs[4]? = some v) (r : RQ G mX12_read d 48 [x0, x1, x2, x3, x4, x5] (v :: S) (h) P) : RQ G mX12_read d 45 [x0, x1, x2, x3, x4, x5] (.ref i :: S) h P := q_get (M := mX12_read) (pc := 45) (kf := 4) dX12_read_45 (show CL[10]? = some (RX12, TX12, 25) from rfl) inA12 (by decide) rfl w1427 ha hv r
theorem tX12_read_48 {v : Int32} (r : RQ G mX12_read d 49 [x0, x1, some (.int v), x3, x4, x5] (.int v :: S) (h) P) : RQ G mX12_read d 48 [x0, x1, some (.int v), x3, x4, x5] (S) h P := q_iload_n (M := mX12_read) (pc := 48) dX12_read_48 rfl rfl r
theorem tX12_read_49 {k : Nat} (r : RQ G mX12_read d 50 [some (.ref k), x1, x2, x3, x4, x5] (.ref k :: S) (h) P) : RQ G mX12_read d 49 [some (.ref k), x1, x2, x3, x4, x5] (S) h P := q_aload_n (M := mX12_read) (pc := 49) (r0 := some k) dX12_read_49 rfl rfl r
theorem tX12_read_50 {v : Int32} (r : RQ G mX12_read d 51 [x0, some (.int v), x2, x3, x4, x5] (.int v :: S) (h) P) : RQ G mX12_read d 50 [x0, some (.int v), x2, x3, x4, x5] (S) h P := q_iload_n (M := mX12_read) (pc := 50) dX12_read_50 rfl rfl r
theorem tX12_read_51 {v : Int32} (r : RQ G mX12_read d 53 [x0, x1, x2, x3, some (.int v), x5] (.int v :: S) (h) P) : RQ G mX12_read d 51 [x0, x1, x2, x3, some (.int v), x5] (S) h P := q_iload (M := mX12_read) (pc := 51) dX12_read_51 rfl r
theorem tX12_read_53 {v : Int32} (r : RQ G mX12_read d 54 [x0, some (.int v), x2, x3, x4, x5] (.int v :: S) (h) P) : RQ G mX12_read d 53 [x0, some (.int v), x2, x3, x4, x5] (S) h P := q_iload_n (M := mX12_read) (pc := 53) dX12_read_53 rfl rfl r
theorem tX12_read_54 {x y : Int32} (r : RQ G mX12_read d 55 [x0, x1, x2, x3, x4, x5] (.int (x - y) :: S) (h) P) : RQ G mX12_read d 54 [x0, x1, x2, x3, x4, x5] (.int y :: .int x :: S) h P := q_isub (M := mX12_read) (pc := 54) dX12_read_54 r
theorem tX12_read_55 {b d2 : Nat} {vs : List Value} {a0 : Int32} {a1 : Int32} {Q : Int32 → AH → Prop} (hd : d2 + 1 ≤ d) (ha : At h b (.inr (10, vs))) (call : RQ G mX12_keyword d2 0 [some (.ref b), some (.int a0), some (.int a1), none] [] h (Ri Q)) (k : ∀ x h1, Q x h1 → RQ G mX12_read d 58 [x0, x1, x2, x3, x4, x5] (.int x :: S) h1 P) (hst : (S.map fun v => v.category).sum ≤ 8 := by exact Nat.le_of_ble_eq_true rfl)  : RQ G mX12_read d 55 [x0, x1, x2, x3, x4, x5] (.int a1 :: .int a0 :: .ref b :: S) h P := q_callV (M := mX12_read) (pc := 55) (M2 := mX12_keyword) (As := [.int a0, .int a1]) (n := 2) dX12_read_55 rfl ⟨by decide, by decide, by decide, rfl⟩ rfl w1545 w1547 w46 w120 w1548 (show CL[10]? = some (RX12, TX12, 25) from rfl) hd (by decide) (Nat.le_of_ble_eq_true rfl) rfl ha hst call (callk_i k)
theorem tX12_read_58 {a n j : Nat} {x : Int32} {v : Int32} {f : Nat → Int32} (ha : At h a (.inl (0, n, .inl f))) (hx : x = nI j) (hj : j < n) (hn : n < 2147483648) (r : RQ G mX12_read d 59 [x0, x1, x2, x3, x4, x5] (S) (hset h a (.inl (0, n, .inl (upd f j v)))) P) : RQ G mX12_read d 58 [x0, x1, x2, x3, x4, x5] (.int v :: .int x :: .ref a :: S) h P := q_iast (M := mX12_read) (pc := 58) dX12_read_58 ha hx hj hn r
theorem tX12_read_59 (r : RQ G mX12_read d 165 [x0, x1, x2, x3, x4, x5] S h P) : RQ G mX12_read d 59 [x0, x1, x2, x3, x4, x5] (S) h P := q_goto (M := mX12_read) (pc := 59) dX12_read_59 (by decide) r
theorem tX12_read_62 {v : Int32} (r : RQ G mX12_read d 63 [x0, x1, x2, some (.int v), x4, x5] (.int v :: S) (h) P) : RQ G mX12_read d 62 [x0, x1, x2, some (.int v), x4, x5] (S) h P := q_iload_n (M := mX12_read) (pc := 62) dX12_read_62 rfl rfl r
theorem tX12_read_63 {d2 : Nat} {a0 : Int32} {Q : Int32 → AH → Prop} (hd : d2 + 1 ≤ d) (call : RQ G mX12_isDigit d2 0 [some (.int a0)] [] h (Ri Q)) (k : ∀ x h1, Q x h1 → RQ G mX12_read d 66 [x0, x1, x2, x3, x4, x5] (.int x :: S) h1 P) (hst : (S.map fun v => v.category).sum ≤ 8 := by exact Nat.le_of_ble_eq_true rfl)  : RQ G mX12_read d 63 [x0, x1, x2, x3, x4, x5] (.int a0 :: S) h P := q_callS (M := mX12_read) (pc := 63) (M2 := mX12_isDigit) (As := [.int a0]) (n := 1) dX12_read_63 ⟨by decide, by decide, by decide, rfl⟩ rfl w1557 w1558 w120 w1559 hd (by decide) (Nat.le_of_ble_eq_true rfl) rfl hst call (callk_i k)
theorem tX12_read_66 {x : Int32} (kt : x = 0 → RQ G mX12_read d 155 [x0, x1, x2, x3, x4, x5] S h P) (kf : ¬ x = 0 → RQ G mX12_read d 69 [x0, x1, x2, x3, x4, x5] S h P) : RQ G mX12_read d 66 [x0, x1, x2, x3, x4, x5] (.int x :: S) h P := q_if_eq (M := mX12_read) (pc := 66) dX12_read_66 (by decide) kt kf
theorem tX12_read_69 {v : Int32} (r : RQ G mX12_read d 70 [x0, x1, x2, some (.int v), x4, x5] (.int v :: S) (h) P) : RQ G mX12_read d 69 [x0, x1, x2, some (.int v), x4, x5] (S) h P := q_iload_n (M := mX12_read) (pc := 69) dX12_read_69 rfl rfl r
theorem tX12_read_70 (r : RQ G mX12_read d 72 [x0, x1, x2, x3, x4, x5] (.int (nI 48) :: S) (h) P) : RQ G mX12_read d 70 [x0, x1, x2, x3, x4, x5] (S) h P := q_bipush (M := mX12_read) (pc := 70) dX12_read_70 (by decide) r
theorem tX12_read_72 {x y : Int32} (r : RQ G mX12_read d 73 [x0, x1, x2, x3, x4, x5] (.int (x - y) :: S) (h) P) : RQ G mX12_read d 72 [x0, x1, x2, x3, x4, x5] (.int y :: .int x :: S) h P := q_isub (M := mX12_read) (pc := 72) dX12_read_72 r
theorem tX12_read_73 {v : Int32} (ho : ok1 x4 = true := by rfl) (r : RQ G mX12_read d 75 [x0, x1, x2, x3, x4, some (.int v)] (S) (h) P) : RQ G mX12_read d 73 [x0, x1, x2, x3, x4, x5] (.int v :: S) h P := q_istore (M := mX12_read) (pc := 73) dX12_read_73 (Nat.le_of_ble_eq_true rfl) ho r
theorem tX12_read_75 {k : Nat} (r : RQ G mX12_read d 76 [some (.ref k), x1, x2, x3, x4, x5] (.ref k :: S) (h) P) : RQ G mX12_read d 75 [some (.ref k), x1, x2, x3, x4, x5] (S) h P := q_aload_n (M := mX12_read) (pc := 75) (r0 := some k) dX12_read_75 rfl rfl r
theorem tX12_read_76 {v : Int32} (r : RQ G mX12_read d 78 [x0, x1, x2, x3, some (.int v), x5] (.int v :: S) (h) P) : RQ G mX12_read d 76 [x0, x1, x2, x3, some (.int v), x5] (S) h P := q_iload (M := mX12_read) (pc := 76) dX12_read_76 rfl r
theorem tX12_read_78 {b d2 : Nat} {vs : List Value} {a0 : Int32} {Q : Int32 → AH → Prop} (hd : d2 + 1 ≤ d) (ha : At h b (.inr (10, vs))) (call : RQ G mX12_byteAt d2 0 [some (.ref b), some (.int a0)] [] h (Ri Q)) (k : ∀ x h1, Q x h1 → RQ G mX12_read d 81 [x0, x1, x2, x3, x4, x5] (.int x :: S) h1 P) (hst : (S.map fun v => v.category).sum ≤ 8 := by exact Nat.le_of_ble_eq_true rfl)  : RQ G mX12_read d 78 [x0, x1, x2, x3, x4, x5] (.int a0 :: .ref b :: S) h P := q_callV (M := mX12_read) (pc := 78) (M2 := mX12_byteAt) (As := [.int a0]) (n := 1) dX12_read_78 rfl ⟨by decide, by decide, by decide, rfl⟩ rfl w1534 w1536 w44 w120 w1537 (show CL[10]? = some (RX12, TX12, 25) from rfl) hd (by decide) (Nat.le_of_ble_eq_true rfl) rfl ha hst call (callk_i k)
theorem tX12_read_81 {d2 : Nat} {a0 : Int32} {Q : Int32 → AH → Prop} (hd : d2 + 1 ≤ d) (call : RQ G mX12_isDigit d2 0 [some (.int a0)] [] h (Ri Q)) (k : ∀ x h1, Q x h1 → RQ G mX12_read d 84 [x0, x1, x2, x3, x4, x5] (.int x :: S) h1 P) (hst : (S.map fun v => v.category).sum ≤ 8 := by exact Nat.le_of_ble_eq_true rfl)  : RQ G mX12_read d 81 [x0, x1, x2, x3, x4, x5] (.int a0 :: S) h P := q_callS (M := mX12_read) (pc := 81) (M2 := mX12_isDigit) (As := [.int a0]) (n := 1) dX12_read_81 ⟨by decide, by decide, by decide, rfl⟩ rfl w1557 w1558 w120 w1559 hd (by decide) (Nat.le_of_ble_eq_true rfl) rfl hst call (callk_i k)
theorem tX12_read_84 {x : Int32} (kt : x = 0 → RQ G mX12_read d 123 [x0, x1, x2, x3, x4, x5] S h P) (kf : ¬ x = 0 → RQ G mX12_read d 87 [x0, x1, x2, x3, x4, x5] S h P) : RQ G mX12_read d 84 [x0, x1, x2, x3, x4, x5] (.int x :: S) h P := q_if_eq (M := mX12_read) (pc := 84) dX12_read_84 (by decide) kt kf
theorem tX12_read_87 {v : Int32} (r : RQ G mX12_read d 89 [x0, x1, x2, x3, some (.int v), x5] (.int v :: S) (h) P) : RQ G mX12_read d 87 [x0, x1, x2, x3, some (.int v), x5] (S) h P := q_iload (M := mX12_read) (pc := 87) dX12_read_87 rfl r
theorem tX12_read_89 {v : Int32} (r : RQ G mX12_read d 90 [x0, some (.int v), x2, x3, x4, x5] (.int v :: S) (h) P) : RQ G mX12_read d 89 [x0, some (.int v), x2, x3, x4, x5] (S) h P := q_iload_n (M := mX12_read) (pc := 89) dX12_read_89 rfl rfl r
theorem tX12_read_90 {x y : Int32} (r : RQ G mX12_read d 91 [x0, x1, x2, x3, x4, x5] (.int (x - y) :: S) (h) P) : RQ G mX12_read d 90 [x0, x1, x2, x3, x4, x5] (.int y :: .int x :: S) h P := q_isub (M := mX12_read) (pc := 90) dX12_read_90 r
theorem tX12_read_91 (r : RQ G mX12_read d 92 [x0, x1, x2, x3, x4, x5] (.int (nI 5) :: S) (h) P) : RQ G mX12_read d 91 [x0, x1, x2, x3, x4, x5] (S) h P := q_iconst (M := mX12_read) (pc := 91) dX12_read_91 (by decide) r
theorem tX12_read_92 {x y : Int32} (kt : y ≤ x → RQ G mX12_read d 113 [x0, x1, x2, x3, x4, x5] S h P) (kf : ¬ y ≤ x → RQ G mX12_read d 95 [x0, x1, x2, x3, x4, x5] S h P) : RQ G mX12_read d 92 [x0, x1, x2, x3, x4, x5] (.int y :: .int x :: S) h P := q_icmp_ge (M := mX12_read) (pc := 92) dX12_read_92 (by decide) kt kf
theorem tX12_read_95 (r : RQ G mX12_read d 97 [x0, x1, x2, x3, x4, x5] (.int (nI 10) :: S) (h) P) : RQ G mX12_read d 95 [x0, x1, x2, x3, x4, x5] (S) h P := q_bipush (M := mX12_read) (pc := 95) dX12_read_95 (by decide) r
theorem tX12_read_97 {v : Int32} (r : RQ G mX12_read d 99 [x0, x1, x2, x3, x4, some (.int v)] (.int v :: S) (h) P) : RQ G mX12_read d 97 [x0, x1, x2, x3, x4, some (.int v)] (S) h P := q_iload (M := mX12_read) (pc := 97) dX12_read_97 rfl r
theorem tX12_read_99 {x y : Int32} (r : RQ G mX12_read d 100 [x0, x1, x2, x3, x4, x5] (.int (x * y) :: S) (h) P) : RQ G mX12_read d 99 [x0, x1, x2, x3, x4, x5] (.int y :: .int x :: S) h P := q_imul (M := mX12_read) (pc := 99) dX12_read_99 r
theorem tX12_read_100 {k : Nat} (r : RQ G mX12_read d 101 [some (.ref k), x1, x2, x3, x4, x5] (.ref k :: S) (h) P) : RQ G mX12_read d 100 [some (.ref k), x1, x2, x3, x4, x5] (S) h P := q_aload_n (M := mX12_read) (pc := 100) (r0 := some k) dX12_read_100 rfl rfl r
theorem tX12_read_101 {v : Int32} (r : RQ G mX12_read d 103 [x0, x1, x2, x3, some (.int v), x5] (.int v :: S) (h) P) : RQ G mX12_read d 101 [x0, x1, x2, x3, some (.int v), x5] (S) h P := q_iload (M := mX12_read) (pc := 101) dX12_read_101 rfl r
theorem tX12_read_103 {b d2 : Nat} {vs : List Value} {a0 : Int32} {Q : Int32 → AH → Prop} (hd : d2 + 1 ≤ d) (ha : At h b (.inr (10, vs))) (call : RQ G mX12_byteAt d2 0 [some (.ref b), some (.int a0)] [] h (Ri Q)) (k : ∀ x h1, Q x h1 → RQ G mX12_read d 106 [x0, x1, x2, x3, x4, x5] (.int x :: S) h1 P) (hst : (S.map fun v => v.category).sum ≤ 8 := by exact Nat.le_of_ble_eq_true rfl)  : RQ G mX12_read d 103 [x0, x1, x2, x3, x4, x5] (.int a0 :: .ref b :: S) h P := q_callV (M := mX12_read) (pc := 103) (M2 := mX12_byteAt) (As := [.int a0]) (n := 1) dX12_read_103 rfl ⟨by decide, by decide, by decide, rfl⟩ rfl w1534 w1536 w44 w120 w1537 (show CL[10]? = some (RX12, TX12, 25) from rfl) hd (by decide) (Nat.le_of_ble_eq_true rfl) rfl ha hst call (callk_i k)
theorem tX12_read_106 {x y : Int32} (r : RQ G mX12_read d 107 [x0, x1, x2, x3, x4, x5] (.int (x + y) :: S) (h) P) : RQ G mX12_read d 106 [x0, x1, x2, x3, x4, x5] (.int y :: .int x :: S) h P := q_iadd (M := mX12_read) (pc := 106) dX12_read_106 r
theorem tX12_read_107 (r : RQ G mX12_read d 109 [x0, x1, x2, x3, x4, x5] (.int (nI 48) :: S) (h) P) : RQ G mX12_read d 107 [x0, x1, x2, x3, x4, x5] (S) h P := q_bipush (M := mX12_read) (pc := 107) dX12_read_107 (by decide) r
theorem tX12_read_109 {x y : Int32} (r : RQ G mX12_read d 110 [x0, x1, x2, x3, x4, x5] (.int (x - y) :: S) (h) P) : RQ G mX12_read d 109 [x0, x1, x2, x3, x4, x5] (.int y :: .int x :: S) h P := q_isub (M := mX12_read) (pc := 109) dX12_read_109 r
theorem tX12_read_110 (r : RQ G mX12_read d 115 [x0, x1, x2, x3, x4, x5] S h P) : RQ G mX12_read d 110 [x0, x1, x2, x3, x4, x5] (S) h P := q_goto (M := mX12_read) (pc := 110) dX12_read_110 (by decide) r
theorem tX12_read_113 {v : Int32} (r : RQ G mX12_read d 115 [x0, x1, x2, x3, x4, some (.int v)] (.int v :: S) (h) P) : RQ G mX12_read d 113 [x0, x1, x2, x3, x4, some (.int v)] (S) h P := q_iload (M := mX12_read) (pc := 113) dX12_read_113 rfl r
theorem tX12_read_115 {v : Int32} (ho : ok1 x4 = true := by rfl) (r : RQ G mX12_read d 117 [x0, x1, x2, x3, x4, some (.int v)] (S) (h) P) : RQ G mX12_read d 115 [x0, x1, x2, x3, x4, x5] (.int v :: S) h P := q_istore (M := mX12_read) (pc := 115) dX12_read_115 (Nat.le_of_ble_eq_true rfl) ho r
theorem tX12_read_117 {v : Int32} (ho : ok1 x3 = true := by rfl) (r : RQ G mX12_read d 120 [x0, x1, x2, x3, some (.int (v + (nI 1))), x5] (S) (h) P) : RQ G mX12_read d 117 [x0, x1, x2, x3, some (.int v), x5] (S) h P := q_iinc (M := mX12_read) (pc := 117) dX12_read_117 rfl (congrArg (v + ·) (show Int32.ofInt (1) = (nI 1) by decide)) (Nat.le_of_ble_eq_true rfl) ho r
theorem tX12_read_120 (r : RQ G mX12_read d 75 [x0, x1, x2, x3, x4, x5] S h P) : RQ G mX12_read d 120 [x0, x1, x2, x3, x4, x5] (S) h P := q_goto (M := mX12_read) (pc := 120) dX12_read_120 (by decide) r
theorem tX12_read_123 {k : Nat} (r : RQ G mX12_read d 124 [some (.ref k), x1, x2, x3, x4, x5] (.ref k :: S) (h) P) : RQ G mX12_read d 123 [some (.ref k), x1, x2, x3, x4, x5] (S) h P := q_aload_n (M := mX12_read) (pc := 123) (r0 := some k) dX12_read_123 rfl rfl r
theorem tX12_read_124 {i : Nat} {vs : List Value} {v : Value} (ha : At h i (.inr (10, vs))) (hv : vs[5]? = some v) (r : RQ G mX12_read d 127 [x0, x1, x2, x3, x4, x5] (v :: S) (h) P) : RQ G mX12_read d 124 [x0, x1, x2, x3, x4, x5] (.ref i :: S) h P := q_get (M := mX12_read) (pc := 124) (kf := 5) dX12_read_124 (show CL[10]? = some (RX12, TX12, 25) from rfl) inA12 (by decide) rfl w1428 ha hv r
theorem tX12_read_127 {v : Int32} (r : RQ G mX12_read d 128 [x0, x1, some (.int v), x3, x4, x5] (.int v :: S) (h) P) : RQ G mX12_read d 127 [x0, x1, some (.int v), x3, x4, x5] (S) h P := q_iload_n (M := mX12_read) (pc := 127) dX12_read_127 rfl rfl r
theorem tX12_read_128 {v : Int32} (r : RQ G mX12_read d 130 [x0, x1, x2, x3, x4, some (.int v)] (.int v :: S) (h) P) : RQ G mX12_read d 128 [x0, x1, x2, x3, x4, some (.int v)] (S) h P := q_iload (M := mX12_read) (pc := 128) dX12_read_128 rfl r
theorem tX12_read_130 {a n j : Nat} {x : Int32} {v : Int32} {f : Nat → Int32} (ha : At h a (.inl (0, n, .inl f))) (hx : x = nI j) (hj : j < n) (hn : n < 2147483648) (r : RQ G mX12_read d 131 [x0, x1, x2, x3, x4, x5] (S) (hset h a (.inl (0, n, .inl (upd f j v)))) P) : RQ G mX12_read d 130 [x0, x1, x2, x3, x4, x5] (.int v :: .int x :: .ref a :: S) h P := q_iast (M := mX12_read) (pc := 130) dX12_read_130 ha hx hj hn r
theorem tX12_read_131 {k : Nat} (r : RQ G mX12_read d 132 [some (.ref k), x1, x2, x3, x4, x5] (.ref k :: S) (h) P) : RQ G mX12_read d 131 [some (.ref k), x1, x2, x3, x4, x5] (S) h P := q_aload_n (M := mX12_read) (pc := 131) (r0 := some k) dX12_read_131 rfl rfl r
theorem tX12_read_132 {i : Nat} {vs : List Value} {v : Value} (ha : At h i (.inr (10, vs))) (hv : vs[4]? = some v) (r : RQ G mX12_read d 135 [x0, x1, x2, x3, x4, x5] (v :: S) (h) P) : RQ G mX12_read d 132 [x0, x1, x2, x3, x4, x5] (.ref i :: S) h P := q_get (M := mX12_read) (pc := 132) (kf := 4) dX12_read_132 (show CL[10]? = some (RX12, TX12, 25) from rfl) inA12 (by decide) rfl w1427 ha hv r
theorem tX12_read_135 {v : Int32} (r : RQ G mX12_read d 136 [x0, x1, some (.int v), x3, x4, x5] (.int v :: S) (h) P) : RQ G mX12_read d 135 [x0, x1, some (.int v), x3, x4, x5] (S) h P := q_iload_n (M := mX12_read) (pc := 135) dX12_read_135 rfl rfl r
theorem tX12_read_136 {v : Int32} (r : RQ G mX12_read d 138 [x0, x1, x2, x3, some (.int v), x5] (.int v :: S) (h) P) : RQ G mX12_read d 136 [x0, x1, x2, x3, some (.int v), x5] (S) h P := q_iload (M := mX12_read) (pc := 136) dX12_read_136 rfl r
theorem tX12_read_138 {v : Int32} (r : RQ G mX12_read d 139 [x0, some (.int v), x2, x3, x4, x5] (.int v :: S) (h) P) : RQ G mX12_read d 138 [x0, some (.int v), x2, x3, x4, x5] (S) h P := q_iload_n (M := mX12_read) (pc := 138) dX12_read_138 rfl rfl r
theorem tX12_read_139 {x y : Int32} (r : RQ G mX12_read d 140 [x0, x1, x2, x3, x4, x5] (.int (x - y) :: S) (h) P) : RQ G mX12_read d 139 [x0, x1, x2, x3, x4, x5] (.int y :: .int x :: S) h P := q_isub (M := mX12_read) (pc := 139) dX12_read_139 r
theorem tX12_read_140 (r : RQ G mX12_read d 141 [x0, x1, x2, x3, x4, x5] (.int (nI 4) :: S) (h) P) : RQ G mX12_read d 140 [x0, x1, x2, x3, x4, x5] (S) h P := q_iconst (M := mX12_read) (pc := 140) dX12_read_140 (by decide) r
theorem tX12_read_141 {x y : Int32} (kt : x ≤ y → RQ G mX12_read d 149 [x0, x1, x2, x3, x4, x5] S h P) (kf : ¬ x ≤ y → RQ G mX12_read d 144 [x0, x1, x2, x3, x4, x5] S h P) : RQ G mX12_read d 141 [x0, x1, x2, x3, x4, x5] (.int y :: .int x :: S) h P := q_icmp_le (M := mX12_read) (pc := 141) dX12_read_141 (by decide) kt kf
theorem tX12_read_144 (r : RQ G mX12_read d 146 [x0, x1, x2, x3, x4, x5] (.int (nI 32) :: S) (h) P) : RQ G mX12_read d 144 [x0, x1, x2, x3, x4, x5] (S) h P := q_bipush (M := mX12_read) (pc := 144) dX12_read_144 (by decide) r
theorem tX12_read_146 (r : RQ G mX12_read d 151 [x0, x1, x2, x3, x4, x5] S h P) : RQ G mX12_read d 146 [x0, x1, x2, x3, x4, x5] (S) h P := q_goto (M := mX12_read) (pc := 146) dX12_read_146 (by decide) r
theorem tX12_read_149 (r : RQ G mX12_read d 151 [x0, x1, x2, x3, x4, x5] (.int (nI 31) :: S) (h) P) : RQ G mX12_read d 149 [x0, x1, x2, x3, x4, x5] (S) h P := q_bipush (M := mX12_read) (pc := 149) dX12_read_149 (by decide) r
theorem tX12_read_151 {a n j : Nat} {x : Int32} {v : Int32} {f : Nat → Int32} (ha : At h a (.inl (0, n, .inl f))) (hx : x = nI j) (hj : j < n) (hn : n < 2147483648) (r : RQ G mX12_read d 152 [x0, x1, x2, x3, x4, x5] (S) (hset h a (.inl (0, n, .inl (upd f j v)))) P) : RQ G mX12_read d 151 [x0, x1, x2, x3, x4, x5] (.int v :: .int x :: .ref a :: S) h P := q_iast (M := mX12_read) (pc := 151) dX12_read_151 ha hx hj hn r
theorem tX12_read_152 (r : RQ G mX12_read d 165 [x0, x1, x2, x3, x4, x5] S h P) : RQ G mX12_read d 152 [x0, x1, x2, x3, x4, x5] (S) h P := q_goto (M := mX12_read) (pc := 152) dX12_read_152 (by decide) r
theorem tX12_read_155 {k : Nat} (r : RQ G mX12_read d 156 [some (.ref k), x1, x2, x3, x4, x5] (.ref k :: S) (h) P) : RQ G mX12_read d 155 [some (.ref k), x1, x2, x3, x4, x5] (S) h P := q_aload_n (M := mX12_read) (pc := 155) (r0 := some k) dX12_read_155 rfl rfl r
theorem tX12_read_156 {i : Nat} {vs : List Value} {v : Value} (ha : At h i (.inr (10, vs))) (hv : vs[4]? = some v) (r : RQ G mX12_read d 159 [x0, x1, x2, x3, x4, x5] (v :: S) (h) P) : RQ G mX12_read d 156 [x0, x1, x2, x3, x4, x5] (.ref i :: S) h P := q_get (M := mX12_read) (pc := 156) (kf := 4) dX12_read_156 (show CL[10]? = some (RX12, TX12, 25) from rfl) inA12 (by decide) rfl w1427 ha hv r
theorem tX12_read_159 {v : Int32} (r : RQ G mX12_read d 160 [x0, x1, some (.int v), x3, x4, x5] (.int v :: S) (h) P) : RQ G mX12_read d 159 [x0, x1, some (.int v), x3, x4, x5] (S) h P := q_iload_n (M := mX12_read) (pc := 159) dX12_read_159 rfl rfl r
theorem tX12_read_160 {v : Int32} (r : RQ G mX12_read d 161 [x0, x1, x2, some (.int v), x4, x5] (.int v :: S) (h) P) : RQ G mX12_read d 160 [x0, x1, x2, some (.int v), x4, x5] (S) h P := q_iload_n (M := mX12_read) (pc := 160) dX12_read_160 rfl rfl r
theorem tX12_read_161 {d2 : Nat} {a0 : Int32} {Q : Int32 → AH → Prop} (hd : d2 + 1 ≤ d) (call : RQ G mX12_sign d2 0 [some (.int a0)] [] h (Ri Q)) (k : ∀ x h1, Q x h1 → RQ G mX12_read d 164 [x0, x1, x2, x3, x4, x5] (.int x :: S) h1 P) (hst : (S.map fun v => v.category).sum ≤ 8 := by exact Nat.le_of_ble_eq_true rfl)  : RQ G mX12_read d 161 [x0, x1, x2, x3, x4, x5] (.int a0 :: S) h P := q_callS (M := mX12_read) (pc := 161) (M2 := mX12_sign) (As := [.int a0]) (n := 1) dX12_read_161 ⟨by decide, by decide, by decide, rfl⟩ rfl w1560 w1561 w120 w1562 hd (by decide) (Nat.le_of_ble_eq_true rfl) rfl hst call (callk_i k)
theorem tX12_read_164 {a n j : Nat} {x : Int32} {v : Int32} {f : Nat → Int32} (ha : At h a (.inl (0, n, .inl f))) (hx : x = nI j) (hj : j < n) (hn : n < 2147483648) (r : RQ G mX12_read d 165 [x0, x1, x2, x3, x4, x5] (S) (hset h a (.inl (0, n, .inl (upd f j v)))) P) : RQ G mX12_read d 164 [x0, x1, x2, x3, x4, x5] (.int v :: .int x :: .ref a :: S) h P := q_iast (M := mX12_read) (pc := 164) dX12_read_164 ha hx hj hn r
theorem tX12_read_165 {k : Nat} (r : RQ G mX12_read d 166 [some (.ref k), x1, x2, x3, x4, x5] (.ref k :: S) (h) P) : RQ G mX12_read d 165 [some (.ref k), x1, x2, x3, x4, x5] (S) h P := q_aload_n (M := mX12_read) (pc := 165) (r0 := some k) dX12_read_165 rfl rfl r
theorem tX12_read_166 {i : Nat} {vs : List Value} {v : Value} (ha : At h i (.inr (10, vs))) (hv : vs[7]? = some v) (r : RQ G mX12_read d 169 [x0, x1, x2, x3, x4, x5] (v :: S) (h) P) : RQ G mX12_read d 166 [x0, x1, x2, x3, x4, x5] (.ref i :: S) h P := q_get (M := mX12_read) (pc := 166) (kf := 7) dX12_read_166 (show CL[10]? = some (RX12, TX12, 25) from rfl) inA12 (by decide) rfl w1430 ha hv r
theorem tX12_read_169 {v : Int32} (r : RQ G mX12_read d 170 [x0, x1, some (.int v), x3, x4, x5] (.int v :: S) (h) P) : RQ G mX12_read d 169 [x0, x1, some (.int v), x3, x4, x5] (S) h P := q_iload_n (M := mX12_read) (pc := 169) dX12_read_169 rfl rfl r
theorem tX12_read_170 {v : Int32} (r : RQ G mX12_read d 172 [x0, x1, x2, x3, some (.int v), x5] (.int v :: S) (h) P) : RQ G mX12_read d 170 [x0, x1, x2, x3, some (.int v), x5] (S) h P := q_iload (M := mX12_read) (pc := 170) dX12_read_170 rfl r
theorem tX12_read_172 {v : Int32} (r : RQ G mX12_read d 173 [x0, some (.int v), x2, x3, x4, x5] (.int v :: S) (h) P) : RQ G mX12_read d 172 [x0, some (.int v), x2, x3, x4, x5] (S) h P := q_iload_n (M := mX12_read) (pc := 172) dX12_read_172 rfl rfl r
theorem tX12_read_173 {x y : Int32} (r : RQ G mX12_read d 174 [x0, x1, x2, x3, x4, x5] (.int (x - y) :: S) (h) P) : RQ G mX12_read d 173 [x0, x1, x2, x3, x4, x5] (.int y :: .int x :: S) h P := q_isub (M := mX12_read) (pc := 173) dX12_read_173 r
theorem tX12_read_174 {a n j : Nat} {x : Int32} {v : Int32} {f : Nat → Int32} (ha : At h a (.inl (0, n, .inl f))) (hx : x = nI j) (hj : j < n) (hn : n < 2147483648) (r : RQ G mX12_read d 175 [x0, x1, x2, x3, x4, x5] (S) (hset h a (.inl (0, n, .inl (upd f j v)))) P) : RQ G mX12_read d 174 [x0, x1, x2, x3, x4, x5] (.int v :: .int x :: .ref a :: S) h P := q_iast (M := mX12_read) (pc := 174) dX12_read_174 ha hx hj hn r
theorem tX12_read_175 {v : Int32} (r : RQ G mX12_read d 177 [x0, x1, x2, x3, some (.int v), x5] (.int v :: S) (h) P) : RQ G mX12_read d 175 [x0, x1, x2, x3, some (.int v), x5] (S) h P := q_iload (M := mX12_read) (pc := 175) dX12_read_175 rfl r
theorem tX12_read_177 {x : Int32} (hP : P (.inl (some (.int x))) h) : RQ G mX12_read d 177 [x0, x1, x2, x3, x4, x5] ([.int x]) h P := q_ireturn (M := mX12_read) (pc := 177) (ty := .int) dX12_read_177 rfl rfl hP
end T
theorem dX12_skip_0 : decode cX12_skip 0 = .ok (.iload_n 1, 1) := by decide +kernel
theorem dX12_skip_1 : decode cX12_skip 1 = .ok (.istore_n 2, 1) := by decide +kernel
theorem dX12_skip_2 : decode cX12_skip 2 = .ok (.aload_n 0, 1) := by decide +kernel
theorem dX12_skip_3 : decode cX12_skip 3 = .ok (.iload_n 2, 1) := by decide +kernel
theorem dX12_skip_4 : decode cX12_skip 4 = .ok (.invokevirtual 112, 3) := by decide +kernel
theorem dX12_skip_7 : decode cX12_skip 7 = .ok (.bipush 32, 2) := by decide +kernel
theorem dX12_skip_9 : decode cX12_skip 9 = .ok (.if_icmp .eq 13, 3) := by decide +kernel
theorem dX12_skip_12 : decode cX12_skip 12 = .ok (.aload_n 0, 1) := by decide +kernel
theorem dX12_skip_13 : decode cX12_skip 13 = .ok (.iload_n 2, 1) := by decide +kernel
theorem dX12_skip_14 : decode cX12_skip 14 = .ok (.invokevirtual 112, 3) := by decide +kernel
theorem dX12_skip_17 : decode cX12_skip 17 = .ok (.bipush 10, 2) := by decide +kernel
theorem dX12_skip_19 : decode cX12_skip 19 = .ok (.if_icmp .ne 9, 3) := by decide +kernel
theorem dX12_skip_22 : decode cX12_skip 22 = .ok (.iinc 2 1, 3) := by decide +kernel
theorem dX12_skip_25 : decode cX12_skip 25 = .ok (.goto (-23), 3) := by decide +kernel
theorem dX12_skip_28 : decode cX12_skip 28 = .ok (.iload_n 2, 1) := by decide +kernel
theorem dX12_skip_29 : decode cX12_skip 29 = .ok (.ireturn, 1) := by decide +kernel
section T
variable {G : GT} {d : Nat} {S : List Value} {h : AH} {P : OC → AH → Prop} {x0 x1 x2 x3 x4 x5 x6 x7 x8 x9 x10 x11 x12 x13 x14 x15 : Option Value}
theorem tX12_skip_0 {v : Int32} (r : RQ G mX12_skip d 1 [x0, some (.int v), x2] (.int v :: S) (h) P) : RQ G mX12_skip d 0 [x0, some (.int v), x2] (S) h P := q_iload_n (M := mX12_skip) (pc := 0) dX12_skip_0 rfl rfl r
theorem tX12_skip_1 {v : Int32} (ho : ok1 x1 = true := by rfl) (r : RQ G mX12_skip d 2 [x0, x1, some (.int v)] (S) (h) P) : RQ G mX12_skip d 1 [x0, x1, x2] (.int v :: S) h P := q_istore_n (M := mX12_skip) (pc := 1) dX12_skip_1 rfl (Nat.le_of_ble_eq_true rfl) ho r
theorem tX12_skip_2 {k : Nat} (r : RQ G mX12_skip d 3 [some (.ref k), x1, x2] (.ref k :: S) (h) P) : RQ G mX12_skip d 2 [some (.ref k), x1, x2] (S) h P := q_aload_n (M := mX12_skip) (pc := 2) (r0 := some k) dX12_skip_2 rfl rfl r
theorem tX12_skip_3 {v : Int32} (r : RQ G mX12_skip d 4 [x0, x1, some (.int v)] (.int v :: S) (h) P) : RQ G mX12_skip d 3 [x0, x1, some (.int v)] (S) h P := q_iload_n (M := mX12_skip) (pc := 3) dX12_skip_3 rfl rfl r
theorem tX12_skip_4 {b d2 : Nat} {vs : List Value} {a0 : Int32} {Q : Int32 → AH → Prop} (hd : d2 + 1 ≤ d) (ha : At h b (.inr (10, vs))) (call : RQ G mX12_byteAt d2 0 [some (.ref b), some (.int a0)] [] h (Ri Q)) (k : ∀ x h1, Q x h1 → RQ G mX12_skip d 7 [x0, x1, x2] (.int x :: S) h1 P) (hst : (S.map fun v => v.category).sum ≤ 8 := by exact Nat.le_of_ble_eq_true rfl)  : RQ G mX12_skip d 4 [x0, x1, x2] (.int a0 :: .ref b :: S) h P := q_callV (M := mX12_skip) (pc := 4) (M2 := mX12_byteAt) (As := [.int a0]) (n := 1) dX12_skip_4 rfl ⟨by decide, by decide, by decide, rfl⟩ rfl w1534 w1536 w44 w120 w1537 (show CL[10]? = some (RX12, TX12, 25) from rfl) hd (by decide) (Nat.le_of_ble_eq_true rfl) rfl ha hst call (callk_i k)
theorem tX12_skip_7 (r : RQ G mX12_skip d 9 [x0, x1, x2] (.int (nI 32) :: S) (h) P) : RQ G mX12_skip d 7 [x0, x1, x2] (S) h P := q_bipush (M := mX12_skip) (pc := 7) dX12_skip_7 (by decide) r
theorem tX12_skip_9 {x y : Int32} (kt : x = y → RQ G mX12_skip d 22 [x0, x1, x2] S h P) (kf : ¬ x = y → RQ G mX12_skip d 12 [x0, x1, x2] S h P) : RQ G mX12_skip d 9 [x0, x1, x2] (.int y :: .int x :: S) h P := q_icmp_eq (M := mX12_skip) (pc := 9) dX12_skip_9 (by decide) kt kf
theorem tX12_skip_12 {k : Nat} (r : RQ G mX12_skip d 13 [some (.ref k), x1, x2] (.ref k :: S) (h) P) : RQ G mX12_skip d 12 [some (.ref k), x1, x2] (S) h P := q_aload_n (M := mX12_skip) (pc := 12) (r0 := some k) dX12_skip_12 rfl rfl r
theorem tX12_skip_13 {v : Int32} (r : RQ G mX12_skip d 14 [x0, x1, some (.int v)] (.int v :: S) (h) P) : RQ G mX12_skip d 13 [x0, x1, some (.int v)] (S) h P := q_iload_n (M := mX12_skip) (pc := 13) dX12_skip_13 rfl rfl r
theorem tX12_skip_14 {b d2 : Nat} {vs : List Value} {a0 : Int32} {Q : Int32 → AH → Prop} (hd : d2 + 1 ≤ d) (ha : At h b (.inr (10, vs))) (call : RQ G mX12_byteAt d2 0 [some (.ref b), some (.int a0)] [] h (Ri Q)) (k : ∀ x h1, Q x h1 → RQ G mX12_skip d 17 [x0, x1, x2] (.int x :: S) h1 P) (hst : (S.map fun v => v.category).sum ≤ 8 := by exact Nat.le_of_ble_eq_true rfl)  : RQ G mX12_skip d 14 [x0, x1, x2] (.int a0 :: .ref b :: S) h P := q_callV (M := mX12_skip) (pc := 14) (M2 := mX12_byteAt) (As := [.int a0]) (n := 1) dX12_skip_14 rfl ⟨by decide, by decide, by decide, rfl⟩ rfl w1534 w1536 w44 w120 w1537 (show CL[10]? = some (RX12, TX12, 25) from rfl) hd (by decide) (Nat.le_of_ble_eq_true rfl) rfl ha hst call (callk_i k)
theorem tX12_skip_17 (r : RQ G mX12_skip d 19 [x0, x1, x2] (.int (nI 10) :: S) (h) P) : RQ G mX12_skip d 17 [x0, x1, x2] (S) h P := q_bipush (M := mX12_skip) (pc := 17) dX12_skip_17 (by decide) r
theorem tX12_skip_19 {x y : Int32} (kt : ¬ x = y → RQ G mX12_skip d 28 [x0, x1, x2] S h P) (kf : x = y → RQ G mX12_skip d 22 [x0, x1, x2] S h P) : RQ G mX12_skip d 19 [x0, x1, x2] (.int y :: .int x :: S) h P := q_icmp_ne (M := mX12_skip) (pc := 19) dX12_skip_19 (by decide) kt kf
theorem tX12_skip_22 {v : Int32} (ho : ok1 x1 = true := by rfl) (r : RQ G mX12_skip d 25 [x0, x1, some (.int (v + (nI 1)))] (S) (h) P) : RQ G mX12_skip d 22 [x0, x1, some (.int v)] (S) h P := q_iinc (M := mX12_skip) (pc := 22) dX12_skip_22 rfl (congrArg (v + ·) (show Int32.ofInt (1) = (nI 1) by decide)) (Nat.le_of_ble_eq_true rfl) ho r
theorem tX12_skip_25 (r : RQ G mX12_skip d 2 [x0, x1, x2] S h P) : RQ G mX12_skip d 25 [x0, x1, x2] (S) h P := q_goto (M := mX12_skip) (pc := 25) dX12_skip_25 (by decide) r
theorem tX12_skip_28 {v : Int32} (r : RQ G mX12_skip d 29 [x0, x1, some (.int v)] (.int v :: S) (h) P) : RQ G mX12_skip d 28 [x0, x1, some (.int v)] (S) h P := q_iload_n (M := mX12_skip) (pc := 28) dX12_skip_28 rfl rfl r
theorem tX12_skip_29 {x : Int32} (hP : P (.inl (some (.int x))) h) : RQ G mX12_skip d 29 [x0, x1, x2] ([.int x]) h P := q_ireturn (M := mX12_skip) (pc := 29) (ty := .int) dX12_skip_29 rfl rfl hP
end T
theorem dX12_readAll_0 : decode cX12_readAll 0 = .ok (.aload_n 0, 1) := by decide +kernel
theorem dX12_readAll_1 : decode cX12_readAll 1 = .ok (.iconst 0, 1) := by decide +kernel
theorem dX12_readAll_2 : decode cX12_readAll 2 = .ok (.invokevirtual 126, 3) := by decide +kernel
theorem dX12_readAll_5 : decode cX12_readAll 5 = .ok (.istore_n 1, 1) := by decide +kernel
theorem dX12_readAll_6 : decode cX12_readAll 6 = .ok (.iconst 0, 1) := by decide +kernel
theorem dX12_readAll_7 : decode cX12_readAll 7 = .ok (.istore_n 2, 1) := by decide +kernel
theorem dX12_readAll_8 : decode cX12_readAll 8 = .ok (.iload_n 1, 1) := by decide +kernel
theorem dX12_readAll_9 : decode cX12_readAll 9 = .ok (.aload_n 0, 1) := by decide +kernel
theorem dX12_readAll_10 : decode cX12_readAll 10 = .ok (.getfield 88, 3) := by decide +kernel
theorem dX12_readAll_13 : decode cX12_readAll 13 = .ok (.if_icmp .ge 52, 3) := by decide +kernel
theorem dX12_readAll_16 : decode cX12_readAll 16 = .ok (.iload_n 2, 1) := by decide +kernel
theorem dX12_readAll_17 : decode cX12_readAll 17 = .ok (.ifCond .eq 16, 3) := by decide +kernel
theorem dX12_readAll_20 : decode cX12_readAll 20 = .ok (.aload_n 0, 1) := by decide +kernel
theorem dX12_readAll_21 : decode cX12_readAll 21 = .ok (.getfield 17, 3) := by decide +kernel
theorem dX12_readAll_24 : decode cX12_readAll 24 = .ok (.iload_n 2, 1) := by decide +kernel
theorem dX12_readAll_25 : decode cX12_readAll 25 = .ok (.iconst 1, 1) := by decide +kernel
theorem dX12_readAll_26 : decode cX12_readAll 26 = .ok (.isub, 1) := by decide +kernel
theorem dX12_readAll_27 : decode cX12_readAll 27 = .ok (.iaload, 1) := by decide +kernel
theorem dX12_readAll_28 : decode cX12_readAll 28 = .ok (.bipush 32, 2) := by decide +kernel
theorem dX12_readAll_30 : decode cX12_readAll 30 = .ok (.if_icmp .eq 35, 3) := by decide +kernel
theorem dX12_readAll_33 : decode cX12_readAll 33 = .ok (.aload_n 0, 1) := by decide +kernel
theorem dX12_readAll_34 : decode cX12_readAll 34 = .ok (.aload_n 0, 1) := by decide +kernel
theorem dX12_readAll_35 : decode cX12_readAll 35 = .ok (.iload_n 1, 1) := by decide +kernel
theorem dX12_readAll_36 : decode cX12_readAll 36 = .ok (.iload_n 2, 1) := by decide +kernel
theorem dX12_readAll_37 : decode cX12_readAll 37 = .ok (.invokevirtual 129, 3) := by decide +kernel
theorem dX12_readAll_40 : decode cX12_readAll 40 = .ok (.invokevirtual 126, 3) := by decide +kernel
theorem dX12_readAll_43 : decode cX12_readAll 43 = .ok (.istore_n 1, 1) := by decide +kernel
theorem dX12_readAll_44 : decode cX12_readAll 44 = .ok (.iload_n 2, 1) := by decide +kernel
theorem dX12_readAll_45 : decode cX12_readAll 45 = .ok (.sipush 400, 3) := by decide +kernel
theorem dX12_readAll_48 : decode cX12_readAll 48 = .ok (.if_icmp .ne 11, 3) := by decide +kernel
theorem dX12_readAll_51 : decode cX12_readAll 51 = .ok (.aload_n 0, 1) := by decide +kernel
theorem dX12_readAll_52 : decode cX12_readAll 52 = .ok (.getfield 17, 3) := by decide +kernel
theorem dX12_readAll_55 : decode cX12_readAll 55 = .ok (.iload_n 2, 1) := by decide +kernel
theorem dX12_readAll_56 : decode cX12_readAll 56 = .ok (.bipush 32, 2) := by decide +kernel
theorem dX12_readAll_58 : decode cX12_readAll 58 = .ok (.iastore, 1) := by decide +kernel
theorem dX12_readAll_59 : decode cX12_readAll 59 = .ok (.iinc 2 1, 3) := by decide +kernel
theorem dX12_readAll_62 : decode cX12_readAll 62 = .ok (.goto (-54), 3) := by decide +kernel
theorem dX12_readAll_65 : decode cX12_readAll 65 = .ok (.aload_n 0, 1) := by decide +kernel
theorem dX12_readAll_66 : decode cX12_readAll 66 = .ok (.getfield 17, 3) := by decide +kernel
theorem dX12_readAll_69 : decode cX12_readAll 69 = .ok (.iload_n 2, 1) := by decide +kernel
theorem dX12_readAll_70 : decode cX12_readAll 70 = .ok (.bipush 33, 2) := by decide +kernel
theorem dX12_readAll_72 : decode cX12_readAll 72 = .ok (.iastore, 1) := by decide +kernel
theorem dX12_readAll_73 : decode cX12_readAll 73 = .ok (.aload_n 0, 1) := by decide +kernel
theorem dX12_readAll_74 : decode cX12_readAll 74 = .ok (.getfield 23, 3) := by decide +kernel
theorem dX12_readAll_77 : decode cX12_readAll 77 = .ok (.iload_n 2, 1) := by decide +kernel
theorem dX12_readAll_78 : decode cX12_readAll 78 = .ok (.aload_n 0, 1) := by decide +kernel
theorem dX12_readAll_79 : decode cX12_readAll 79 = .ok (.getfield 88, 3) := by decide +kernel
theorem dX12_readAll_82 : decode cX12_readAll 82 = .ok (.iastore, 1) := by decide +kernel
theorem dX12_readAll_83 : decode cX12_readAll 83 = .ok (.return_, 1) := by decide +kernel
section T
variable {G : GT} {d : Nat} {S : List Value} {h : AH} {P : OC → AH → Prop} {x0 x1 x2 x3 x4 x5 x6 x7 x8 x9 x10 x11 x12 x13 x14 x15 : Option Value}
theorem tX12_readAll_0 {k : Nat} (r : RQ G mX12_readAll d 1 [some (.ref k), x1, x2] (.ref k :: S) (h) P) : RQ G mX12_readAll d 0 [some (.ref k), x1, x2] (S) h P := q_aload_n (M := mX12_readAll) (pc := 0) (r0 := some k) dX12_readAll_0 rfl rfl r
theorem tX12_readAll_1 (r : RQ G mX12_readAll d 2 [x0, x1, x2] (.int (nI 0) :: S) (h) P) : RQ G mX12_readAll d 1 [x0, x1, x2] (S) h P := q_iconst (M := mX12_readAll) (pc := 1) dX12_readAll_1 (by decide) r
theorem tX12_readAll_2 {b d2 : Nat} {vs : List Value} {a0 : Int32} {Q : Int32 → AH → Prop} (hd : d2 + 1 ≤ d) (ha : At h b (.inr (10, vs))) (call : RQ G mX12_skip d2 0 [some (.ref b), some (.int a0), none] [] h (Ri Q)) (k : ∀ x h1, Q x h1 → RQ G mX12_readAll d 5 [x0, x1, x2] (.int x :: S) h1 P) (hst : (S.map fun v => v.category).sum ≤ 8 := by exact Nat.le_of_ble_eq_true rfl)  : RQ G mX12_readAll d 2 [x0, x1, x2] (.int a0 :: .ref b :: S) h P := q_callV (M := mX12_readAll) (pc := 2) (M2 := mX12_skip) (As := [.int a0]) (n := 1) dX12_readAll_2 rfl ⟨by decide, by decide, by decide, rfl⟩ rfl w1530 w1532 w43 w120 w1533 (show CL[10]? = some (RX12, TX12, 25) from rfl) hd (by decide) (Nat.le_of_ble_eq_true rfl) rfl ha hst call (callk_i k)
theorem tX12_readAll_5 {v : Int32} (ho : ok1 x0 = true := by rfl) (r : RQ G mX12_readAll d 6 [x0, some (.int v), x2] (S) (h) P) : RQ G mX12_readAll d 5 [x0, x1, x2] (.int v :: S) h P := q_istore_n (M := mX12_readAll) (pc := 5) dX12_readAll_5 rfl (Nat.le_of_ble_eq_true rfl) ho r
theorem tX12_readAll_6 (r : RQ G mX12_readAll d 7 [x0, x1, x2] (.int (nI 0) :: S) (h) P) : RQ G mX12_readAll d 6 [x0, x1, x2] (S) h P := q_iconst (M := mX12_readAll) (pc := 6) dX12_readAll_6 (by decide) r
theorem tX12_readAll_7 {v : Int32} (ho : ok1 x1 = true := by rfl) (r : RQ G mX12_readAll d 8 [x0, x1, some (.int v)] (S) (h) P) : RQ G mX12_readAll d 7 [x0, x1, x2] (.int v :: S) h P := q_istore_n (M := mX12_readAll) (pc := 7) dX12_readAll_7 rfl (Nat.le_of_ble_eq_true rfl) ho r
theorem tX12_readAll_8 {v : Int32} (r : RQ G mX12_readAll d 9 [x0, some (.int v), x2] (.int v :: S) (h) P) : RQ G mX12_readAll d 8 [x0, some (.int v), x2] (S) h P := q_iload_n (M := mX12_readAll) (pc := 8) dX12_readAll_8 rfl rfl r
theorem tX12_readAll_9 {k : Nat} (r : RQ G mX12_readAll d 10 [some (.ref k), x1, x2] (.ref k :: S) (h) P) : RQ G mX12_readAll d 9 [some (.ref k), x1, x2] (S) h P := q_aload_n (M := mX12_readAll) (pc := 9) (r0 := some k) dX12_readAll_9 rfl rfl r
theorem tX12_readAll_10 {i : Nat} {vs : List Value} {v : Value} (ha : At h i (.inr (10, vs))) (hv : vs[2]? = some v) (r : RQ G mX12_readAll d 13 [x0, x1, x2] (v :: S) (h) P) : RQ G mX12_readAll d 10 [x0, x1, x2] (.ref i :: S) h P := q_get (M := mX12_readAll) (pc := 10) (kf := 2) dX12_readAll_10 (show CL[10]? = some (RX12, TX12, 25) from rfl) inA12 (by decide) rfl w1425 ha hv r
theorem tX12_readAll_13 {x y : Int32} (kt : y ≤ x → RQ G mX12_readAll d 65 [x0, x1, x2] S h P) (kf : ¬ y ≤ x → RQ G mX12_readAll d 16 [x0, x1, x2] S h P) : RQ G mX12_readAll d 13 [x0, x1, x2] (.int y :: .int x :: S) h P := q_icmp_ge (M := mX12_readAll) (pc := 13) dX12_readAll_13 (by decide) kt kf
theorem tX12_readAll_16 {v : Int32} (r : RQ G mX12_readAll d 17 [x0, x1, some (.int v)] (.int v :: S) (h) P) : RQ G mX12_readAll d 16 [x0, x1, some (.int v)] (S) h P := q_iload_n (M := mX12_readAll) (pc := 16) dX12_readAll_16 rfl rfl r
theorem tX12_readAll_17 {x : Int32} (kt : x = 0 → RQ G mX12_readAll d 33 [x0, x1, x2] S h P) (kf : ¬ x = 0 → RQ G mX12_readAll d 20 [x0, x1, x2] S h P) : RQ G mX12_readAll d 17 [x0, x1, x2] (.int x :: S) h P := q_if_eq (M := mX12_readAll) (pc := 17) dX12_readAll_17 (by decide) kt kf
theorem tX12_readAll_20 {k : Nat} (r : RQ G mX12_readAll d 21 [some (.ref k), x1, x2] (.ref k :: S) (h) P) : RQ G mX12_readAll d 20 [some (.ref k), x1, x2] (S) h P := q_aload_n (M := mX12_readAll) (pc := 20) (r0 := some k) dX12_readAll_20 rfl rfl r
theorem tX12_readAll_21 {i : Nat} {vs : List Value} {v : Value} (ha : At h i (.inr (10, vs))) (hv : vs[4]? = some v) (r : RQ G mX12_readAll d 24 [x0, x1, x2] (v :: S) (h) P) : RQ G mX12_readAll d 21 [x0, x1, x2] (.ref i :: S) h P := q_get (M := mX12_readAll) (pc := 21) (kf := 4) dX12_readAll_21 (show CL[10]? = some (RX12, TX12, 25) from rfl) inA12 (by decide) rfl w1427 ha hv r
theorem tX12_readAll_24 {v : Int32} (r : RQ G mX12_readAll d 25 [x0, x1, some (.int v)] (.int v :: S) (h) P) : RQ G mX12_readAll d 24 [x0, x1, some (.int v)] (S) h P := q_iload_n (M := mX12_readAll) (pc := 24) dX12_readAll_24 rfl rfl r
theorem tX12_readAll_25 (r : RQ G mX12_readAll d 26 [x0, x1, x2] (.int (nI 1) :: S) (h) P) : RQ G mX12_readAll d 25 [x0, x1, x2] (S) h P := q_iconst (M := mX12_readAll) (pc := 25) dX12_readAll_25 (by decide) r
theorem tX12_readAll_26 {x y : Int32} (r : RQ G mX12_readAll d 27 [x0, x1, x2] (.int (x - y) :: S) (h) P) : RQ G mX12_readAll d 26 [x0, x1, x2] (.int y :: .int x :: S) h P := q_isub (M := mX12_readAll) (pc := 26) dX12_readAll_26 r
theorem tX12_readAll_27 {a n j : Nat} {x : Int32} {f : Nat → Int32} (ha : At h a (.inl (0, n, .inl f))) (hx : x = nI j) (hj : j < n) (hn : n < 2147483648) (r : RQ G mX12_readAll d 28 [x0, x1, x2] (.int (f j) :: S) (h) P) : RQ G mX12_readAll d 27 [x0, x1, x2] (.int x :: .ref a :: S) h P := q_iald (M := mX12_readAll) (pc := 27) dX12_readAll_27 ha hx hj hn r
theorem tX12_readAll_28 (r : RQ G mX12_readAll d 30 [x0, x1, x2] (.int (nI 32) :: S) (h) P) : RQ G mX12_readAll d 28 [x0, x1, x2] (S) h P := q_bipush (M := mX12_readAll) (pc := 28) dX12_readAll_28 (by decide) r
theorem tX12_readAll_30 {x y : Int32} (kt : x = y → RQ G mX12_readAll d 65 [x0, x1, x2] S h P) (kf : ¬ x = y → RQ G mX12_readAll d 33 [x0, x1, x2] S h P) : RQ G mX12_readAll d 30 [x0, x1, x2] (.int y :: .int x :: S) h P := q_icmp_eq (M := mX12_readAll) (pc := 30) dX12_readAll_30 (by decide) kt kf
theorem tX12_readAll_33 {k : Nat} (r : RQ G mX12_readAll d 34 [some (.ref k), x1, x2] (.ref k :: S) (h) P) : RQ G mX12_readAll d 33 [some (.ref k), x1, x2] (S) h P := q_aload_n (M := mX12_readAll) (pc := 33) (r0 := some k) dX12_readAll_33 rfl rfl r
theorem tX12_readAll_34 {k : Nat} (r : RQ G mX12_readAll d 35 [some (.ref k), x1, x2] (.ref k :: S) (h) P) : RQ G mX12_readAll d 34 [some (.ref k), x1, x2] (S) h P := q_aload_n (M := mX12_readAll) (pc := 34) (r0 := some k) dX12_readAll_34 rfl rfl r
theorem tX12_readAll_35 {v : Int32} (r : RQ G mX12_readAll d 36 [x0, some (.int v), x2] (.int v :: S) (h) P) : RQ G mX12_readAll d 35 [x0, some (.int v), x2] (S) h P := q_iload_n (M := mX12_readAll) (pc := 35) dX12_readAll_35 rfl rfl r
theorem tX12_readAll_36 {v : Int32} (r : RQ G mX12_readAll d 37 [x0, x1, some (.int v)] (.int v :: S) (h) P) : RQ G mX12_readAll d 36 [x0, x1, some (.int v)] (S) h P := q_iload_n (M := mX12_readAll) (pc := 36) dX12_readAll_36 rfl rfl r
theorem tX12_readAll_37 {b d2 : Nat} {vs : List Value} {a0 : Int32} {a1 : Int32} {Q : Int32 → AH → Prop} (hd : d2 + 1 ≤ d) (ha : At h b (.inr (10, vs))) (call : RQ G mX12_read d2 0 [some (.ref b), some (.int a0), some (.int a1), none, none, none] [] h (Ri Q)) (k : ∀ x h1, Q x h1 → RQ G mX12_readAll d 40 [x0, x1, x2] (.int x :: S) h1 P) (hst : (S.map fun v => v.category).sum ≤ 8 := by exact Nat.le_of_ble_eq_true rfl)  : RQ G mX12_readAll d 37 [x0, x1, x2] (.int a1 :: .int a0 :: .ref b :: S) h P := q_callV (M := mX12_readAll) (pc := 37) (M2 := mX12_read) (As := [.int a0, .int a1]) (n := 2) dX12_readAll_37 rfl ⟨by decide, by decide, by decide, rfl⟩ rfl w1538 w1540 w45 w120 w1541 (show CL[10]? = some (RX12, TX12, 25) from rfl) hd (by decide) (Nat.le_of_ble_eq_true rfl) rfl ha hst call (callk_i k)
theorem tX12_readAll_40 {b d2 : Nat} {vs : List Value} {a0 : Int32} {Q : Int32 → AH → Prop} (hd : d2 + 1 ≤ d) (ha : At h b (.inr (10, vs))) (call : RQ G mX12_skip d2 0 [some (.ref b), some (.int a0), none] [] h (Ri Q)) (k : ∀ x h1, Q x h1 → RQ G mX12_readAll d 43 [x0, x1, x2] (.int x :: S) h1 P) (hst : (S.map fun v => v.category).sum ≤ 8 := by exact Nat.le_of_ble_eq_true rfl)  : RQ G mX12_readAll d 40 [x0, x1, x2] (.int a0 :: .ref b :: S) h P := q_callV (M := mX12_readAll) (pc := 40) (M2 := mX12_skip) (As := [.int a0]) (n := 1) dX12_readAll_40 rfl ⟨by decide, by decide, by decide, rfl⟩ rfl w1530 w1532 w43 w120 w1533 (show CL[10]? = some (RX12, TX12, 25) from rfl) hd (by decide) (Nat.le_of_ble_eq_true rfl) rfl ha hst call (callk_i k)
theorem tX12_readAll_43 {v : Int32} (ho : ok1 x0 = true := by rfl) (r : RQ G mX12_readAll d 44 [x0, some (.int v), x2] (S) (h) P) : RQ G mX12_readAll d 43 [x0, x1, x2] (.int v :: S) h P := q_istore_n (M := mX12_readAll) (pc := 43) dX12_readAll_43 rfl (Nat.le_of_ble_eq_true rfl) ho r
theorem tX12_readAll_44 {v : Int32} (r : RQ G mX12_readAll d 45 [x0, x1, some (.int v)] (.int v :: S) (h) P) : RQ G mX12_readAll d 44 [x0, x1, some (.int v)] (S) h P := q_iload_n (M := mX12_readAll) (pc := 44) dX12_readAll_44 rfl rfl r
theorem tX12_readAll_45 (r : RQ G mX12_readAll d 48 [x0, x1, x2] (.int (nI 400) :: S) (h) P) : RQ G mX12_readAll d 45 [x0, x1, x2] (S) h P := q_sipush (M := mX12_readAll) (pc := 45) dX12_readAll_45 (by decide) r
theorem tX12_readAll_48 {x y : Int32} (kt : ¬ x = y → RQ G mX12_readAll d 59 [x0, x1, x2] S h P) (kf : x = y → RQ G mX12_readAll d 51 [x0, x1, x2] S h P) : RQ G mX12_readAll d 48 [x0, x1, x2] (.int y :: .int x :: S) h P := q_icmp_ne (M := mX12_readAll) (pc := 48) dX12_readAll_48 (by decide) kt kf
theorem tX12_readAll_51 {k : Nat} (r : RQ G mX12_readAll d 52 [some (.ref k), x1, x2] (.ref k :: S) (h) P) : RQ G mX12_readAll d 51 [some (.ref k), x1, x2] (S) h P := q_aload_n (M := mX12_readAll) (pc := 51) (r0 := some k) dX12_readAll_51 rfl rfl r
theorem tX12_readAll_52 {i : Nat} {vs : List Value} {v : Value} (ha : At h i (.inr (10, vs))) (hv : vs[4]? = some v) (r : RQ G mX12_readAll d 55 [x0, x1, x2] (v :: S) (h) P) : RQ G mX12_readAll d 52 [x0, x1, x2] (.ref i :: S) h P := q_get (M := mX12_readAll) (pc := 52) (kf := 4) dX12_readAll_52 (show CL[10]? = some (RX12, TX12, 25) from rfl) inA12 (by decide) rfl w1427 ha hv r
theorem tX12_readAll_55 {v : Int32} (r : RQ G mX12_readAll d 56 [x0, x1, some (.int v)] (.int v :: S) (h) P) : RQ G mX12_readAll d 55 [x0, x1, some (.int v)] (S) h P := q_iload_n (M := mX12_readAll) (pc := 55) dX12_readAll_55 rfl rfl r
theorem tX12_readAll_56 (r : RQ G mX12_readAll d 58 [x0, x1, x2] (.int (nI 32) :: S) (h) P) : RQ G mX12_readAll d 56 [x0, x1, x2] (S) h P := q_bipush (M := mX12_readAll) (pc := 56) dX12_readAll_56 (by decide) r
theorem tX12_readAll_58 {a n j : Nat} {x : Int32} {v : Int32} {f : Nat → Int32} (ha : At h a (.inl (0, n, .inl f))) (hx : x = nI j) (hj : j < n) (hn : n < 2147483648) (r : RQ G mX12_readAll d 59 [x0, x1, x2] (S) (hset h a (.inl (0, n, .inl (upd f j v)))) P) : RQ G mX12_readAll d 58 [x0, x1, x2] (.int v :: .int x :: .ref a :: S) h P := q_iast (M := mX12_readAll) (pc := 58) dX12_readAll_58 ha hx hj hn r
theorem tX12_readAll_59 {v : Int32} (ho : ok1 x1 = true := by rfl) (r : RQ G mX12_readAll d 62 [x0, x1, some (.int (v + (nI 1)))] (S) (h) P) : RQ G mX12_readAll d 59 [x0, x1, some (.int v)] (S) h P := q_iinc (M := mX12_readAll) (pc := 59) dX12_readAll_59 rfl (congrArg (v + ·) (show Int32.ofInt (1) = (nI 1) by decide)) (Nat.le_of_ble_eq_true rfl) ho r
theorem tX12_readAll_62 (r : RQ G mX12_readAll d 8 [x0, x1, x2] S h P) : RQ G mX12_readAll d 62 [x0, x1, x2] (S) h P := q_goto (M := mX12_readAll) (pc := 62) dX12_readAll_62 (by decide) r
theorem tX12_readAll_65 {k : Nat} (r : RQ G mX12_readAll d 66 [some (.ref k), x1, x2] (.ref k :: S) (h) P) : RQ G mX12_readAll d 65 [some (.ref k), x1, x2] (S) h P := q_aload_n (M := mX12_readAll) (pc := 65) (r0 := some k) dX12_readAll_65 rfl rfl r
theorem tX12_readAll_66 {i : Nat} {vs : List Value} {v : Value} (ha : At h i (.inr (10, vs))) (hv : vs[4]? = some v) (r : RQ G mX12_readAll d 69 [x0, x1, x2] (v :: S) (h) P) : RQ G mX12_readAll d 66 [x0, x1, x2] (.ref i :: S) h P := q_get (M := mX12_readAll) (pc := 66) (kf := 4) dX12_readAll_66 (show CL[10]? = some (RX12, TX12, 25) from rfl) inA12 (by decide) rfl w1427 ha hv r
theorem tX12_readAll_69 {v : Int32} (r : RQ G mX12_readAll d 70 [x0, x1, some (.int v)] (.int v :: S) (h) P) : RQ G mX12_readAll d 69 [x0, x1, some (.int v)] (S) h P := q_iload_n (M := mX12_readAll) (pc := 69) dX12_readAll_69 rfl rfl r
theorem tX12_readAll_70 (r : RQ G mX12_readAll d 72 [x0, x1, x2] (.int (nI 33) :: S) (h) P) : RQ G mX12_readAll d 70 [x0, x1, x2] (S) h P := q_bipush (M := mX12_readAll) (pc := 70) dX12_readAll_70 (by decide) r
theorem tX12_readAll_72 {a n j : Nat} {x : Int32} {v : Int32} {f : Nat → Int32} (ha : At h a (.inl (0, n, .inl f))) (hx : x = nI j) (hj : j < n) (hn : n < 2147483648) (r : RQ G mX12_readAll d 73 [x0, x1, x2] (S) (hset h a (.inl (0, n, .inl (upd f j v)))) P) : RQ G mX12_readAll d 72 [x0, x1, x2] (.int v :: .int x :: .ref a :: S) h P := q_iast (M := mX12_readAll) (pc := 72) dX12_readAll_72 ha hx hj hn r
theorem tX12_readAll_73 {k : Nat} (r : RQ G mX12_readAll d 74 [some (.ref k), x1, x2] (.ref k :: S) (h) P) : RQ G mX12_readAll d 73 [some (.ref k), x1, x2] (S) h P := q_aload_n (M := mX12_readAll) (pc := 73) (r0 := some k) dX12_readAll_73 rfl rfl r
theorem tX12_readAll_74 {i : Nat} {vs : List Value} {v : Value} (ha : At h i (.inr (10, vs))) (hv : vs[6]? = some v) (r : RQ G mX12_readAll d 77 [x0, x1, x2] (v :: S) (h) P) : RQ G mX12_readAll d 74 [x0, x1, x2] (.ref i :: S) h P := q_get (M := mX12_readAll) (pc := 74) (kf := 6) dX12_readAll_74 (show CL[10]? = some (RX12, TX12, 25) from rfl) inA12 (by decide) rfl w1429 ha hv r
theorem tX12_readAll_77 {v : Int32} (r : RQ G mX12_readAll d 78 [x0, x1, some (.int v)] (.int v :: S) (h) P) : RQ G mX12_readAll d 77 [x0, x1, some (.int v)] (S) h P := q_iload_n (M := mX12_readAll) (pc := 77) dX12_readAll_77 rfl rfl r
theorem tX12_readAll_78 {k : Nat} (r : RQ G mX12_readAll d 79 [some (.ref k), x1, x2] (.ref k :: S) (h) P) : RQ G mX12_readAll d 78 [some (.ref k), x1, x2] (S) h P := q_aload_n (M := mX12_readAll) (pc := 78) (r0 := some k) dX12_readAll_78 rfl rfl r
theorem tX12_readAll_79 {i : Nat} {vs : List Value} {v : Value} (ha : At h i (.inr (10, vs))) (hv : vs[2]? = some v) (r : RQ G mX12_readAll d 82 [x0, x1, x2] (v :: S) (h) P) : RQ G mX12_readAll d 79 [x0, x1, x2] (.ref i :: S) h P := q_get (M := mX12_readAll) (pc := 79) (kf := 2) dX12_readAll_79 (show CL[10]? = some (RX12, TX12, 25) from rfl) inA12 (by decide) rfl w1425 ha hv r
theorem tX12_readAll_82 {a n j : Nat} {x : Int32} {v : Int32} {f : Nat → Int32} (ha : At h a (.inl (0, n, .inl f))) (hx : x = nI j) (hj : j < n) (hn : n < 2147483648) (r : RQ G mX12_readAll d 83 [x0, x1, x2] (S) (hset h a (.inl (0, n, .inl (upd f j v)))) P) : RQ G mX12_readAll d 82 [x0, x1, x2] (.int v :: .int x :: .ref a :: S) h P := q_iast (M := mX12_readAll) (pc := 82) dX12_readAll_82 ha hx hj hn r
theorem tX12_readAll_83 (hP : P (.inl none) h) : RQ G mX12_readAll d 83 [x0, x1, x2] ([]) h P := q_return (M := mX12_readAll) (pc := 83) dX12_readAll_83 rfl hP
end T
theorem dX12_is_0 : decode cX12_is 0 = .ok (.aload_n 0, 1) := by decide +kernel
theorem dX12_is_1 : decode cX12_is 1 = .ok (.getfield 132, 3) := by decide +kernel
theorem dX12_is_4 : decode cX12_is 4 = .ok (.ifCond .ne 20, 3) := by decide +kernel
theorem dX12_is_7 : decode cX12_is 7 = .ok (.aload_n 0, 1) := by decide +kernel
theorem dX12_is_8 : decode cX12_is 8 = .ok (.getfield 17, 3) := by decide +kernel
theorem dX12_is_11 : decode cX12_is 11 = .ok (.aload_n 0, 1) := by decide +kernel
theorem dX12_is_12 : decode cX12_is 12 = .ok (.getfield 136, 3) := by decide +kernel
theorem dX12_is_15 : decode cX12_is 15 = .ok (.iaload, 1) := by decide +kernel
theorem dX12_is_16 : decode cX12_is 16 = .ok (.iload_n 1, 1) := by decide +kernel
theorem dX12_is_17 : decode cX12_is 17 = .ok (.if_icmp .ne 7, 3) := by decide +kernel
theorem dX12_is_20 : decode cX12_is 20 = .ok (.iconst 1, 1) := by decide +kernel
theorem dX12_is_21 : decode cX12_is 21 = .ok (.goto 4, 3) := by decide +kernel
theorem dX12_is_24 : decode cX12_is 24 = .ok (.iconst 0, 1) := by decide +kernel
theorem dX12_is_25 : decode cX12_is 25 = .ok (.ireturn, 1) := by decide +kernel
section T
variable {G : GT} {d : Nat} {S : List Value} {h : AH} {P : OC → AH → Prop} {x0 x1 x2 x3 x4 x5 x6 x7 x8 x9 x10 x11 x12 x13 x14 x15 : Option Value}
theorem tX12_is_0 {k : Nat} (r : RQ G mX12_is d 1 [some (.ref k), x1] (.ref k :: S) (h) P) : RQ G mX12_is d 0 [some (.ref k), x1] (S) h P := q_aload_n (M := mX12_is) (pc := 0) (r0 := some k) dX12_is_0 rfl rfl r
theorem tX12_is_1 {i : Nat} {vs : List Value} {v : Value} (ha : At h i (.inr (10, vs))) (hv : vs[9]? = some v) (r : RQ G mX12_is d 4 [x0, x1] (v :: S) (h) P) : RQ G mX12_is d 1 [x0, x1] (.ref i :: S) h P := q_get (M := mX12_is) (pc := 1) (kf := 9) dX12_is_1 (show CL[10]? = some (RX12, TX12, 25) from rfl) inA12 (by decide) rfl w1432 ha hv r
theorem tX12_is_4 {x : Int32} (kt : ¬ x = 0 → RQ G mX12_is d 24 [x0, x1] S h P) (kf : x = 0 → RQ G mX12_is d 7 [x0, x1] S h P) : RQ G mX12_is d 4 [x0, x1] (.int x :: S) h P := q_if_ne (M := mX12_is) (pc := 4) dX12_is_4 (by decide) kt kf
theorem tX12_is_7 {k : Nat} (r : RQ G mX12_is d 8 [some (.ref k), x1] (.ref k :: S) (h) P) : RQ G mX12_is d 7 [some (.ref k), x1] (S) h P := q_aload_n (M := mX12_is) (pc := 7) (r0 := some k) dX12_is_7 rfl rfl r
theorem tX12_is_8 {i : Nat} {vs : List Value} {v : Value} (ha : At h i (.inr (10, vs))) (hv : vs[4]? = some v) (r : RQ G mX12_is d 11 [x0, x1] (v :: S) (h) P) : RQ G mX12_is d 8 [x0, x1] (.ref i :: S) h P := q_get (M := mX12_is) (pc := 8) (kf := 4) dX12_is_8 (show CL[10]? = some (RX12, TX12, 25) from rfl) inA12 (by decide) rfl w1427 ha hv r
theorem tX12_is_11 {k : Nat} (r : RQ G mX12_is d 12 [some (.ref k), x1] (.ref k :: S) (h) P) : RQ G mX12_is d 11 [some (.ref k), x1] (S) h P := q_aload_n (M := mX12_is) (pc := 11) (r0 := some k) dX12_is_11 rfl rfl r
theorem tX12_is_12 {i : Nat} {vs : List Value} {v : Value} (ha : At h i (.inr (10, vs))) (hv : vs[8]? = some v) (r : RQ G mX12_is d 15 [x0, x1] (v :: S) (h) P) : RQ G mX12_is d 12 [x0, x1] (.ref i :: S) h P := q_get (M := mX12_is) (pc := 12) (kf := 8) dX12_is_12 (show CL[10]? = some (RX12, TX12, 25) from rfl) inA12 (by decide) rfl w1431 ha hv r
theorem tX12_is_15 {a n j : Nat} {x : Int32} {f : Nat → Int32} (ha : At h a (.inl (0, n, .inl f))) (hx : x = nI j) (hj : j < n) (hn : n < 2147483648) (r : RQ G mX12_is d 16 [x0, x1] (.int (f j) :: S) (h) P) : RQ G mX12_is d 15 [x0, x1] (.int x :: .ref a :: S) h P := q_iald (M := mX12_is) (pc := 15) dX12_is_15 ha hx hj hn r
theorem tX12_is_16 {v : Int32} (r : RQ G mX12_is d 17 [x0, some (.int v)] (.int v :: S) (h) P) : RQ G mX12_is d 16 [x0, some (.int v)] (S) h P := q_iload_n (M := mX12_is) (pc := 16) dX12_is_16 rfl rfl r
theorem tX12_is_17 {x y : Int32} (kt : ¬ x = y → RQ G mX12_is d 24 [x0, x1] S h P) (kf : x = y → RQ G mX12_is d 20 [x0, x1] S h P) : RQ G mX12_is d 17 [x0, x1] (.int y :: .int x :: S) h P := q_icmp_ne (M := mX12_is) (pc := 17) dX12_is_17 (by decide) kt kf
theorem tX12_is_20 (r : RQ G mX12_is d 21 [x0, x1] (.int (nI 1) :: S) (h) P) : RQ G mX12_is d 20 [x0, x1] (S) h P := q_iconst (M := mX12_is) (pc := 20) dX12_is_20 (by decide) r
theorem tX12_is_21 (r : RQ G mX12_is d 25 [x0, x1] S h P) : RQ G mX12_is d 21 [x0, x1] (S) h P := q_goto (M := mX12_is) (pc := 21) dX12_is_21 (by decide) r
theorem tX12_is_24 (r : RQ G mX12_is d 25 [x0, x1] (.int (nI 0) :: S) (h) P) : RQ G mX12_is d 24 [x0, x1] (S) h P := q_iconst (M := mX12_is) (pc := 24) dX12_is_24 (by decide) r
theorem tX12_is_25 {x : Int32} (hb : x = nI 0 ∨ x = nI 1) (hP : P (.inl (some (.int x))) h) : RQ G mX12_is d 25 [x0, x1] ([.int x]) h P := q_ireturn (M := mX12_is) (pc := 25) (ty := .boolean) dX12_is_25 rfl (nar_bool hb) hP
end T
theorem dX12_wrong_0 : decode cX12_wrong 0 = .ok (.aload_n 0, 1) := by decide +kernel
theorem dX12_wrong_1 : decode cX12_wrong 1 = .ok (.getfield 132, 3) := by decide +kernel
theorem dX12_wrong_4 : decode cX12_wrong 4 = .ok (.ifCond .eq 4, 3) := by decide +kernel
theorem dX12_wrong_7 : decode cX12_wrong 7 = .ok (.return_, 1) := by decide +kernel
theorem dX12_wrong_8 : decode cX12_wrong 8 = .ok (.aload_n 0, 1) := by decide +kernel
theorem dX12_wrong_9 : decode cX12_wrong 9 = .ok (.iconst 1, 1) := by decide +kernel
theorem dX12_wrong_10 : decode cX12_wrong 10 = .ok (.putfield 132, 3) := by decide +kernel
theorem dX12_wrong_13 : decode cX12_wrong 13 = .ok (.aload_n 0, 1) := by decide +kernel
theorem dX12_wrong_14 : decode cX12_wrong 14 = .ok (.iconst 1, 1) := by decide +kernel
theorem dX12_wrong_15 : decode cX12_wrong 15 = .ok (.putfield 139, 3) := by decide +kernel
theorem dX12_wrong_18 : decode cX12_wrong 18 = .ok (.aload_n 0, 1) := by decide +kernel
theorem dX12_wrong_19 : decode cX12_wrong 19 = .ok (.aload_n 0, 1) := by decide +kernel
theorem dX12_wrong_20 : decode cX12_wrong 20 = .ok (.getfield 136, 3) := by decide +kernel
theorem dX12_wrong_23 : decode cX12_wrong 23 = .ok (.putfield 142, 3) := by decide +kernel
theorem dX12_wrong_26 : decode cX12_wrong 26 = .ok (.return_, 1) := by decide +kernel
section T
variable {G : GT} {d : Nat} {S : List Value} {h : AH} {P : OC → AH → Prop} {x0 x1 x2 x3 x4 x5 x6 x7 x8 x9 x10 x11 x12 x13 x14 x15 : Option Value}
theorem tX12_wrong_0 {k : Nat} (r : RQ G mX12_wrong d 1 [some (.ref k)] (.ref k :: S) (h) P) : RQ G mX12_wrong d 0 [some (.ref k)] (S) h P := q_aload_n (M := mX12_wrong) (pc := 0) (r0 := some k) dX12_wrong_0 rfl rfl r
theorem tX12_wrong_1 {i : Nat} {vs : List Value} {v : Value} (ha : At h i (.inr (10, vs))) (hv : vs[9]? = some v) (r : RQ G mX12_wrong d 4 [x0] (v :: S) (h) P) : RQ G mX12_wrong d 1 [x0] (.ref i :: S) h P := q_get (M := mX12_wrong) (pc := 1) (kf := 9) dX12_wrong_1 (show CL[10]? = some (RX12, TX12, 25) from rfl) inA12 (by decide) rfl w1432 ha hv r
theorem tX12_wrong_4 {x : Int32} (kt : x = 0 → RQ G mX12_wrong d 8 [x0] S h P) (kf : ¬ x = 0 → RQ G mX12_wrong d 7 [x0] S h P) : RQ G mX12_wrong d 4 [x0] (.int x :: S) h P := q_if_eq (M := mX12_wrong) (pc := 4) dX12_wrong_4 (by decide) kt kf
theorem tX12_wrong_7 (hP : P (.inl none) h) : RQ G mX12_wrong d 7 [x0] ([]) h P := q_return (M := mX12_wrong) (pc := 7) dX12_wrong_7 rfl hP
theorem tX12_wrong_8 {k : Nat} (r : RQ G mX12_wrong d 9 [some (.ref k)] (.ref k :: S) (h) P) : RQ G mX12_wrong d 8 [some (.ref k)] (S) h P := q_aload_n (M := mX12_wrong) (pc := 8) (r0 := some k) dX12_wrong_8 rfl rfl r
theorem tX12_wrong_9 (r : RQ G mX12_wrong d 10 [x0] (.int (nI 1) :: S) (h) P) : RQ G mX12_wrong d 9 [x0] (S) h P := q_iconst (M := mX12_wrong) (pc := 9) dX12_wrong_9 (by decide) r
theorem tX12_wrong_10 {i : Nat} {vs : List Value} {v : Int32} (ha : At h i (.inr (10, vs))) (hlen : vs.length = 25) (hb : v = nI 0 ∨ v = nI 1) (r : RQ G mX12_wrong d 13 [x0] (S) (hset h i (.inr (10, vs.set 9 (.int v)))) P) : RQ G mX12_wrong d 10 [x0] (.int v :: .ref i :: S) h P := q_put (M := mX12_wrong) (pc := 10) (kf := 9) (host := "") dX12_wrong_10 (show CL[10]? = some (RX12, TX12, 25) from rfl) inA12 tyX12_ok nmX12 (by decide) rfl w1432 rfl (tyX12_ok 9 (by decide)) (nfit_bool hb) (by rw [hlen]; decide) ha r
theorem tX12_wrong_13 {k : Nat} (r : RQ G mX12_wrong d 14 [some (.ref k)] (.ref k :: S) (h) P) : RQ G mX12_wrong d 13 [some (.ref k)] (S) h P := q_aload_n (M := mX12_wrong) (pc := 13) (r0 := some k) dX12_wrong_13 rfl rfl r
theorem tX12_wrong_14 (r : RQ G mX12_wrong d 15 [x0] (.int (nI 1) :: S) (h) P) : RQ G mX12_wrong d 14 [x0] (S) h P := q_iconst (M := mX12_wrong) (pc := 14) dX12_wrong_14 (by decide) r
theorem tX12_wrong_15 {i : Nat} {vs : List Value} {v : Int32} (ha : At h i (.inr (10, vs))) (hlen : vs.length = 25) (r : RQ G mX12_wrong d 18 [x0] (S) (hset h i (.inr (10, vs.set 10 (.int v)))) P) : RQ G mX12_wrong d 15 [x0] (.int v :: .ref i :: S) h P := q_put (M := mX12_wrong) (pc := 15) (kf := 10) (host := "") dX12_wrong_15 (show CL[10]? = some (RX12, TX12, 25) from rfl) inA12 tyX12_ok nmX12 (by decide) rfl w1433 rfl (tyX12_ok 10 (by decide)) (nfit_int v) (by rw [hlen]; decide) ha r
theorem tX12_wrong_18 {k : Nat} (r : RQ G mX12_wrong d 19 [some (.ref k)] (.ref k :: S) (h) P) : RQ G mX12_wrong d 18 [some (.ref k)] (S) h P := q_aload_n (M := mX12_wrong) (pc := 18) (r0 := some k) dX12_wrong_18 rfl rfl r
theorem tX12_wrong_19 {k : Nat} (r : RQ G mX12_wrong d 20 [some (.ref k)] (.ref k :: S) (h) P) : RQ G mX12_wrong d 19 [some (.ref k)] (S) h P := q_aload_n (M := mX12_wrong) (pc := 19) (r0 := some k) dX12_wrong_19 rfl rfl r
theorem tX12_wrong_20 {i : Nat} {vs : List Value} {v : Value} (ha : At h i (.inr (10, vs))) (hv : vs[8]? = some v) (r : RQ G mX12_wrong d 23 [x0] (v :: S) (h) P) : RQ G mX12_wrong d 20 [x0] (.ref i :: S) h P := q_get (M := mX12_wrong) (pc := 20) (kf := 8) dX12_wrong_20 (show CL[10]? = some (RX12, TX12, 25) from rfl) inA12 (by decide) rfl w1431 ha hv r
theorem tX12_wrong_23 {i : Nat} {vs : List Value} {v : Int32} (ha : At h i (.inr (10, vs))) (hlen : vs.length = 25) (r : RQ G mX12_wrong d 26 [x0] (S) (hset h i (.inr (10, vs.set 11 (.int v)))) P) : RQ G mX12_wrong d 23 [x0] (.int v :: .ref i :: S) h P := q_put (M := mX12_wrong) (pc := 23) (kf := 11) (host := "") dX12_wrong_23 (show CL[10]? = some (RX12, TX12, 25) from rfl) inA12 tyX12_ok nmX12 (by decide) rfl w1434 rfl (tyX12_ok 11 (by decide)) (nfit_int v) (by rw [hlen]; decide) ha r
theorem tX12_wrong_26 (hP : P (.inl none) h) : RQ G mX12_wrong d 26 [x0] ([]) h P := q_return (M := mX12_wrong) (pc := 26) dX12_wrong_26 rfl hP
end T
theorem dX12_take_0 : decode cX12_take 0 = .ok (.aload_n 0, 1) := by decide +kernel
theorem dX12_take_1 : decode cX12_take 1 = .ok (.iload_n 1, 1) := by decide +kernel
theorem dX12_take_2 : decode cX12_take 2 = .ok (.invokevirtual 145, 3) := by decide +kernel
theorem dX12_take_5 : decode cX12_take 5 = .ok (.ifCond .eq 16, 3) := by decide +kernel
theorem dX12_take_8 : decode cX12_take 8 = .ok (.aload_n 0, 1) := by decide +kernel
theorem dX12_take_9 : decode cX12_take 9 = .ok (.dup, 1) := by decide +kernel
theorem dX12_take_10 : decode cX12_take 10 = .ok (.getfield 136, 3) := by decide +kernel
theorem dX12_take_13 : decode cX12_take 13 = .ok (.iconst 1, 1) := by decide +kernel
theorem dX12_take_14 : decode cX12_take 14 = .ok (.iadd, 1) := by decide +kernel
theorem dX12_take_15 : decode cX12_take 15 = .ok (.putfield 136, 3) := by decide +kernel
theorem dX12_take_18 : decode cX12_take 18 = .ok (.goto 7, 3) := by decide +kernel
theorem dX12_take_21 : decode cX12_take 21 = .ok (.aload_n 0, 1) := by decide +kernel
theorem dX12_take_22 : decode cX12_take 22 = .ok (.invokevirtual 148, 3) := by decide +kernel
theorem dX12_take_25 : decode cX12_take 25 = .ok (.return_, 1) := by decide +kernel
section T
variable {G : GT} {d : Nat} {S : List Value} {h : AH} {P : OC → AH → Prop} {x0 x1 x2 x3 x4 x5 x6 x7 x8 x9 x10 x11 x12 x13 x14 x15 : Option Value}
theorem tX12_take_0 {k : Nat} (r : RQ G mX12_take d 1 [some (.ref k), x1] (.ref k :: S) (h) P) : RQ G mX12_take d 0 [some (.ref k), x1] (S) h P := q_aload_n (M := mX12_take) (pc := 0) (r0 := some k) dX12_take_0 rfl rfl r
theorem tX12_take_1 {v : Int32} (r : RQ G mX12_take d 2 [x0, some (.int v)] (.int v :: S) (h) P) : RQ G mX12_take d 1 [x0, some (.int v)] (S) h P := q_iload_n (M := mX12_take) (pc := 1) dX12_take_1 rfl rfl r
theorem tX12_take_2 {b d2 : Nat} {vs : List Value} {a0 : Int32} {Q : Int32 → AH → Prop} (hd : d2 + 1 ≤ d) (ha : At h b (.inr (10, vs))) (call : RQ G mX12_is d2 0 [some (.ref b), some (.int a0)] [] h (Ri Q)) (k : ∀ x h1, Q x h1 → RQ G mX12_take d 5 [x0, x1] (.int x :: S) h1 P) (hst : (S.map fun v => v.category).sum ≤ 8 := by exact Nat.le_of_ble_eq_true rfl)  : RQ G mX12_take d 2 [x0, x1] (.int a0 :: .ref b :: S) h P := q_callV (M := mX12_take) (pc := 2) (M2 := mX12_is) (As := [.int a0]) (n := 1) dX12_take_2 rfl ⟨by decide, by decide, by decide, rfl⟩ rfl w1571 w1573 w50 w120 w1574 (show CL[10]? = some (RX12, TX12, 25) from rfl) hd (by decide) (Nat.le_of_ble_eq_true rfl) rfl ha hst call (callk_i k)
theorem tX12_take_5 {x : Int32} (kt : x = 0 → RQ G mX12_take d 21 [x0, x1] S h P) (kf : ¬ x = 0 → RQ G mX12_take d 8 [x0, x1] S h P) : RQ G mX12_take d 5 [x0, x1] (.int x :: S) h P := q_if_eq (M := mX12_take) (pc := 5) dX12_take_5 (by decide) kt kf
theorem tX12_take_8 {k : Nat} (r : RQ G mX12_take d 9 [some (.ref k), x1] (.ref k :: S) (h) P) : RQ G mX12_take d 8 [some (.ref k), x1] (S) h P := q_aload_n (M := mX12_take) (pc := 8) (r0 := some k) dX12_take_8 rfl rfl r
theorem tX12_take_9 {v : Value} (hv : ok1 (some v) = true := by rfl) (r : RQ G mX12_take d 10 [x0, x1] (v :: v :: S) (h) P) : RQ G mX12_take d 9 [x0, x1] (v :: S) h P := q_dup (M := mX12_take) (pc := 9) dX12_take_9 hv r
theorem tX12_take_10 {i : Nat} {vs : List Value} {v : Value} (ha : At h i (.inr (10, vs))) (hv : vs[8]? = some v) (r : RQ G mX12_take d 13 [x0, x1] (v :: S) (h) P) : RQ G mX12_take d 10 [x0, x1] (.ref i :: S) h P := q_get (M := mX12_take) (pc := 10) (kf := 8) dX12_take_10 (show CL[10]? = some (RX12, TX12, 25) from rfl) inA12 (by decide) rfl w1431 ha hv r
theorem tX12_take_13 (r : RQ G mX12_take d 14 [x0, x1] (.int (nI 1) :: S) (h) P) : RQ G mX12_take d 13 [x0, x1] (S) h P := q_iconst (M := mX12_take) (pc := 13) dX12_take_13 (by decide) r
theorem tX12_take_14 {x y : Int32} (r : RQ G mX12_take d 15 [x0, x1] (.int (x + y) :: S) (h) P) : RQ G mX12_take d 14 [x0, x1] (.int y :: .int x :: S) h P := q_iadd (M := mX12_take) (pc := 14) dX12_take_14 r
theorem tX12_take_15 {i : Nat} {vs : List Value} {v : Int32} (ha : At h i (.inr (10, vs))) (hlen : vs.length = 25) (r : RQ G mX12_take d 18 [x0, x1] (S) (hset h i (.inr (10, vs.set 8 (.int v)))) P) : RQ G mX12_take d 15 [x0, x1] (.int v :: .ref i :: S) h P := q_put (M := mX12_take) (pc := 15) (kf := 8) (host := "") dX12_take_15 (show CL[10]? = some (RX12, TX12, 25) from rfl) inA12 tyX12_ok nmX12 (by decide) rfl w1431 rfl (tyX12_ok 8 (by decide)) (nfit_int v) (by rw [hlen]; decide) ha r
theorem tX12_take_18 (r : RQ G mX12_take d 25 [x0, x1] S h P) : RQ G mX12_take d 18 [x0, x1] (S) h P := q_goto (M := mX12_take) (pc := 18) dX12_take_18 (by decide) r
theorem tX12_take_21 {k : Nat} (r : RQ G mX12_take d 22 [some (.ref k), x1] (.ref k :: S) (h) P) : RQ G mX12_take d 21 [some (.ref k), x1] (S) h P := q_aload_n (M := mX12_take) (pc := 21) (r0 := some k) dX12_take_21 rfl rfl r
theorem tX12_take_22 {b d2 : Nat} {vs : List Value}  {Q : AH → Prop} (hd : d2 + 1 ≤ d) (ha : At h b (.inr (10, vs))) (call : RQ G mX12_wrong d2 0 [some (.ref b)] [] h (Rv Q)) (k : ∀ h1, Q h1 → RQ G mX12_take d 25 [x0, x1] S h1 P) (hst : (S.map fun v => v.category).sum ≤ 8 := by exact Nat.le_of_ble_eq_true rfl)  : RQ G mX12_take d 22 [x0, x1] (.ref b :: S) h P := q_callV (M := mX12_take) (pc := 22) (M2 := mX12_wrong) (As := []) (n := 0) dX12_take_22 rfl ⟨by decide, by decide, by decide, rfl⟩ rfl w1595 w1597 w56 w120 w1598 (show CL[10]? = some (RX12, TX12, 25) from rfl) hd (by decide) (Nat.le_of_ble_eq_true rfl) rfl ha hst call (callk_v k)
theorem tX12_take_25 (hP : P (.inl none) h) : RQ G mX12_take d 25 [x0, x1] ([]) h P := q_return (M := mX12_take) (pc := 25) dX12_take_25 rfl hP
end T
theorem dX12_takes_0 : decode cX12_takes 0 = .ok (.aload_n 0, 1) := by decide +kernel
theorem dX12_takes_1 : decode cX12_takes 1 = .ok (.iload_n 1, 1) := by decide +kernel
theorem dX12_takes_2 : decode cX12_takes 2 = .ok (.invokevirtual 145, 3) := by decide +kernel
theorem dX12_takes_5 : decode cX12_takes 5 = .ok (.ifCond .ne 5, 3) := by decide +kernel
theorem dX12_takes_8 : decode cX12_takes 8 = .ok (.iconst 0, 1) := by decide +kernel
theorem dX12_takes_9 : decode cX12_takes 9 = .ok (.ireturn, 1) := by decide +kernel
theorem dX12_takes_10 : decode cX12_takes 10 = .ok (.aload_n 0, 1) := by decide +kernel
theorem dX12_takes_11 : decode cX12_takes 11 = .ok (.dup, 1) := by decide +kernel
theorem dX12_takes_12 : decode cX12_takes 12 = .ok (.getfield 136, 3) := by decide +kernel
theorem dX12_takes_15 : decode cX12_takes 15 = .ok (.iconst 1, 1) := by decide +kernel
theorem dX12_takes_16 : decode cX12_takes 16 = .ok (.iadd, 1) := by decide +kernel
theorem dX12_takes_17 : decode cX12_takes 17 = .ok (.putfield 136, 3) := by decide +kernel
theorem dX12_takes_20 : decode cX12_takes 20 = .ok (.iconst 1, 1) := by decide +kernel
theorem dX12_takes_21 : decode cX12_takes 21 = .ok (.ireturn, 1) := by decide +kernel
section T
variable {G : GT} {d : Nat} {S : List Value} {h : AH} {P : OC → AH → Prop} {x0 x1 x2 x3 x4 x5 x6 x7 x8 x9 x10 x11 x12 x13 x14 x15 : Option Value}
theorem tX12_takes_0 {k : Nat} (r : RQ G mX12_takes d 1 [some (.ref k), x1] (.ref k :: S) (h) P) : RQ G mX12_takes d 0 [some (.ref k), x1] (S) h P := q_aload_n (M := mX12_takes) (pc := 0) (r0 := some k) dX12_takes_0 rfl rfl r
theorem tX12_takes_1 {v : Int32} (r : RQ G mX12_takes d 2 [x0, some (.int v)] (.int v :: S) (h) P) : RQ G mX12_takes d 1 [x0, some (.int v)] (S) h P := q_iload_n (M := mX12_takes) (pc := 1) dX12_takes_1 rfl rfl r
theorem tX12_takes_2 {b d2 : Nat} {vs : List Value} {a0 : Int32} {Q : Int32 → AH → Prop} (hd : d2 + 1 ≤ d) (ha : At h b (.inr (10, vs))) (call : RQ G mX12_is d2 0 [some (.ref b), some (.int a0)] [] h (Ri Q)) (k : ∀ x h1, Q x h1 → RQ G mX12_takes d 5 [x0, x1] (.int x :: S) h1 P) (hst : (S.map fun v => v.category).sum ≤ 8 := by exact Nat.le_of_ble_eq_true rfl)  : RQ G mX12_takes d 2 [x0, x1] (.int a0 :: .ref b :: S) h P := q_callV (M := mX12_takes) (pc := 2) (M2 := mX12_is) (As := [.int a0]) (n := 1) dX12_takes_2 rfl ⟨by decide, by decide, by decide, rfl⟩ rfl w1571 w1573 w50 w120 w1574 (show CL[10]? = some (RX12, TX12, 25) from rfl) hd (by decide) (Nat.le_of_ble_eq_true rfl) rfl ha hst call (callk_i k)
theorem tX12_takes_5 {x : Int32} (kt : ¬ x = 0 → RQ G mX12_takes d 10 [x0, x1] S h P) (kf : x = 0 → RQ G mX12_takes d 8 [x0, x1] S h P) : RQ G mX12_takes d 5 [x0, x1] (.int x :: S) h P := q_if_ne (M := mX12_takes) (pc := 5) dX12_takes_5 (by decide) kt kf
theorem tX12_takes_8 (r : RQ G mX12_takes d 9 [x0, x1] (.int (nI 0) :: S) (h) P) : RQ G mX12_takes d 8 [x0, x1] (S) h P := q_iconst (M := mX12_takes) (pc := 8) dX12_takes_8 (by decide) r
theorem tX12_takes_9 {x : Int32} (hb : x = nI 0 ∨ x = nI 1) (hP : P (.inl (some (.int x))) h) : RQ G mX12_takes d 9 [x0, x1] ([.int x]) h P := q_ireturn (M := mX12_takes) (pc := 9) (ty := .boolean) dX12_takes_9 rfl (nar_bool hb) hP
theorem tX12_takes_10 {k : Nat} (r : RQ G mX12_takes d 11 [some (.ref k), x1] (.ref k :: S) (h) P) : RQ G mX12_takes d 10 [some (.ref k), x1] (S) h P := q_aload_n (M := mX12_takes) (pc := 10) (r0 := some k) dX12_takes_10 rfl rfl r
theorem tX12_takes_11 {v : Value} (hv : ok1 (some v) = true := by rfl) (r : RQ G mX12_takes d 12 [x0, x1] (v :: v :: S) (h) P) : RQ G mX12_takes d 11 [x0, x1] (v :: S) h P := q_dup (M := mX12_takes) (pc := 11) dX12_takes_11 hv r
theorem tX12_takes_12 {i : Nat} {vs : List Value} {v : Value} (ha : At h i (.inr (10, vs))) (hv : vs[8]? = some v) (r : RQ G mX12_takes d 15 [x0, x1] (v :: S) (h) P) : RQ G mX12_takes d 12 [x0, x1] (.ref i :: S) h P := q_get (M := mX12_takes) (pc := 12) (kf := 8) dX12_takes_12 (show CL[10]? = some (RX12, TX12, 25) from rfl) inA12 (by decide) rfl w1431 ha hv r
theorem tX12_takes_15 (r : RQ G mX12_takes d 16 [x0, x1] (.int (nI 1) :: S) (h) P) : RQ G mX12_takes d 15 [x0, x1] (S) h P := q_iconst (M := mX12_takes) (pc := 15) dX12_takes_15 (by decide) r
theorem tX12_takes_16 {x y : Int32} (r : RQ G mX12_takes d 17 [x0, x1] (.int (x + y) :: S) (h) P) : RQ G mX12_takes d 16 [x0, x1] (.int y :: .int x :: S) h P := q_iadd (M := mX12_takes) (pc := 16) dX12_takes_16 r
theorem tX12_takes_17 {i : Nat} {vs : List Value} {v : Int32} (ha : At h i (.inr (10, vs))) (hlen : vs.length = 25) (r : RQ G mX12_takes d 20 [x0, x1] (S) (hset h i (.inr (10, vs.set 8 (.int v)))) P) : RQ G mX12_takes d 17 [x0, x1] (.int v :: .ref i :: S) h P := q_put (M := mX12_takes) (pc := 17) (kf := 8) (host := "") dX12_takes_17 (show CL[10]? = some (RX12, TX12, 25) from rfl) inA12 tyX12_ok nmX12 (by decide) rfl w1431 rfl (tyX12_ok 8 (by decide)) (nfit_int v) (by rw [hlen]; decide) ha r
theorem tX12_takes_20 (r : RQ G mX12_takes d 21 [x0, x1] (.int (nI 1) :: S) (h) P) : RQ G mX12_takes d 20 [x0, x1] (S) h P := q_iconst (M := mX12_takes) (pc := 20) dX12_takes_20 (by decide) r
theorem tX12_takes_21 {x : Int32} (hb : x = nI 0 ∨ x = nI 1) (hP : P (.inl (some (.int x))) h) : RQ G mX12_takes d 21 [x0, x1] ([.int x]) h P := q_ireturn (M := mX12_takes) (pc := 21) (ty := .boolean) dX12_takes_21 rfl (nar_bool hb) hP
end T
theorem dX12_deeper_0 : decode cX12_deeper 0 = .ok (.aload_n 0, 1) := by decide +kernel
theorem dX12_deeper_1 : decode cX12_deeper 1 = .ok (.getfield 151, 3) := by decide +kernel
theorem dX12_deeper_4 : decode cX12_deeper 4 = .ok (.bipush 6, 2) := by decide +kernel
theorem dX12_deeper_6 : decode cX12_deeper 6 = .ok (.if_icmp .ne 10, 3) := by decide +kernel
theorem dX12_deeper_9 : decode cX12_deeper 9 = .ok (.aload_n 0, 1) := by decide +kernel
theorem dX12_deeper_10 : decode cX12_deeper 10 = .ok (.invokevirtual 148, 3) := by decide +kernel
theorem dX12_deeper_13 : decode cX12_deeper 13 = .ok (.goto 13, 3) := by decide +kernel
theorem dX12_deeper_16 : decode cX12_deeper 16 = .ok (.aload_n 0, 1) := by decide +kernel
theorem dX12_deeper_17 : decode cX12_deeper 17 = .ok (.dup, 1) := by decide +kernel
theorem dX12_deeper_18 : decode cX12_deeper 18 = .ok (.getfield 136, 3) := by decide +kernel
theorem dX12_deeper_21 : decode cX12_deeper 21 = .ok (.iconst 1, 1) := by decide +kernel
theorem dX12_deeper_22 : decode cX12_deeper 22 = .ok (.iadd, 1) := by decide +kernel
theorem dX12_deeper_23 : decode cX12_deeper 23 = .ok (.putfield 136, 3) := by decide +kernel
theorem dX12_deeper_26 : decode cX12_deeper 26 = .ok (.aload_n 0, 1) := by decide +kernel
theorem dX12_deeper_27 : decode cX12_deeper 27 = .ok (.dup, 1) := by decide +kernel
theorem dX12_deeper_28 : decode cX12_deeper 28 = .ok (.getfield 151, 3) := by decide +kernel
theorem dX12_deeper_31 : decode cX12_deeper 31 = .ok (.iconst 1, 1) := by decide +kernel
theorem dX12_deeper_32 : decode cX12_deeper 32 = .ok (.iadd, 1) := by decide +kernel
theorem dX12_deeper_33 : decode cX12_deeper 33 = .ok (.putfield 151, 3) := by decide +kernel
theorem dX12_deeper_36 : decode cX12_deeper 36 = .ok (.return_, 1) := by decide +kernel
section T
variable {G : GT} {d : Nat} {S : List Value} {h : AH} {P : OC → AH → Prop} {x0 x1 x2 x3 x4 x5 x6 x7 x8 x9 x10 x11 x12 x13 x14 x15 : Option Value}
theorem tX12_deeper_0 {k : Nat} (r : RQ G mX12_deeper d 1 [some (.ref k)] (.ref k :: S) (h) P) : RQ G mX12_deeper d 0 [some (.ref k)] (S) h P := q_aload_n (M := mX12_deeper) (pc := 0) (r0 := some k) dX12_deeper_0 rfl rfl r
theorem tX12_deeper_1 {i : Nat} {vs : List Value} {v : Value} (ha : At h i (.inr (10, vs))) (hv : vs[12]? = some v) (r : RQ G mX12_deeper d 4 [x0] (v :: S) (h) P) : RQ G mX12_deeper d 1 [x0] (.ref i :: S) h P := q_get (M := mX12_deeper) (pc := 1) (kf := 12) dX12_deeper_1 (show CL[10]? = some (RX12, TX12, 25) from rfl) inA12 (by decide) rfl w1435 ha hv r
theorem tX12_deeper_4 (r : RQ G mX12_deeper d 6 [x0] (.int (nI 6) :: S) (h) P) : RQ G mX12_deeper d 4 [x0] (S) h P := q_bipush (M := mX12_deeper) (pc := 4) dX12_deeper_4 (by decide) r
theorem tX12_deeper_6 {x y : Int32} (kt : ¬ x = y → RQ G mX12_deeper d 16 [x0] S h P) (kf : x = y → RQ G mX12_deeper d 9 [x0] S h P) : RQ G mX12_deeper d 6 [x0] (.int y :: .int x :: S) h P := q_icmp_ne (M := mX12_deeper) (pc := 6) dX12_deeper_6 (by decide) kt kf
theorem tX12_deeper_9 {k : Nat} (r : RQ G mX12_deeper d 10 [some (.ref k)] (.ref k :: S) (h) P) : RQ G mX12_deeper d 9 [some (.ref k)] (S) h P := q_aload_n (M := mX12_deeper) (pc := 9) (r0 := some k) dX12_deeper_9 rfl rfl r
theorem tX12_deeper_10 {b d2 : Nat} {vs : List Value}  {Q : AH → Prop} (hd : d2 + 1 ≤ d) (ha : At h b (.inr (10, vs))) (call : RQ G mX12_wrong d2 0 [some (.ref b)] [] h (Rv Q)) (k : ∀ h1, Q h1 → RQ G mX12_deeper d 13 [x0] S h1 P) (hst : (S.map fun v => v.category).sum ≤ 8 := by exact Nat.le_of_ble_eq_true rfl)  : RQ G mX12_deeper d 10 [x0] (.ref b :: S) h P := q_callV (M := mX12_deeper) (pc := 10) (M2 := mX12_wrong) (As := []) (n := 0) dX12_deeper_10 rfl ⟨by decide, by decide, by decide, rfl⟩ rfl w1595 w1597 w56 w120 w1598 (show CL[10]? = some (RX12, TX12, 25) from rfl) hd (by decide) (Nat.le_of_ble_eq_true rfl) rfl ha hst call (callk_v k)
theorem tX12_deeper_13 (r : RQ G mX12_deeper d 26 [x0] S h P) : RQ G mX12_deeper d 13 [x0] (S) h P := q_goto (M := mX12_deeper) (pc := 13) dX12_deeper_13 (by decide) r
theorem tX12_deeper_16 {k : Nat} (r : RQ G mX12_deeper d 17 [some (.ref k)] (.ref k :: S) (h) P) : RQ G mX12_deeper d 16 [some (.ref k)] (S) h P := q_aload_n (M := mX12_deeper) (pc := 16) (r0 := some k) dX12_deeper_16 rfl rfl r
theorem tX12_deeper_17 {v : Value} (hv : ok1 (some v) = true := by rfl) (r : RQ G mX12_deeper d 18 [x0] (v :: v :: S) (h) P) : RQ G mX12_deeper d 17 [x0] (v :: S) h P := q_dup (M := mX12_deeper) (pc := 17) dX12_deeper_17 hv r
theorem tX12_deeper_18 {i : Nat} {vs : List Value} {v : Value} (ha : At h i (.inr (10, vs))) (hv : vs[8]? = some v) (r : RQ G mX12_deeper d 21 [x0] (v :: S) (h) P) : RQ G mX12_deeper d 18 [x0] (.ref i :: S) h P := q_get (M := mX12_deeper) (pc := 18) (kf := 8) dX12_deeper_18 (show CL[10]? = some (RX12, TX12, 25) from rfl) inA12 (by decide) rfl w1431 ha hv r
theorem tX12_deeper_21 (r : RQ G mX12_deeper d 22 [x0] (.int (nI 1) :: S) (h) P) : RQ G mX12_deeper d 21 [x0] (S) h P := q_iconst (M := mX12_deeper) (pc := 21) dX12_deeper_21 (by decide) r
theorem tX12_deeper_22 {x y : Int32} (r : RQ G mX12_deeper d 23 [x0] (.int (x + y) :: S) (h) P) : RQ G mX12_deeper d 22 [x0] (.int y :: .int x :: S) h P := q_iadd (M := mX12_deeper) (pc := 22) dX12_deeper_22 r
theorem tX12_deeper_23 {i : Nat} {vs : List Value} {v : Int32} (ha : At h i (.inr (10, vs))) (hlen : vs.length = 25) (r : RQ G mX12_deeper d 26 [x0] (S) (hset h i (.inr (10, vs.set 8 (.int v)))) P) : RQ G mX12_deeper d 23 [x0] (.int v :: .ref i :: S) h P := q_put (M := mX12_deeper) (pc := 23) (kf := 8) (host := "") dX12_deeper_23 (show CL[10]? = some (RX12, TX12, 25) from rfl) inA12 tyX12_ok nmX12 (by decide) rfl w1431 rfl (tyX12_ok 8 (by decide)) (nfit_int v) (by rw [hlen]; decide) ha r
theorem tX12_deeper_26 {k : Nat} (r : RQ G mX12_deeper d 27 [some (.ref k)] (.ref k :: S) (h) P) : RQ G mX12_deeper d 26 [some (.ref k)] (S) h P := q_aload_n (M := mX12_deeper) (pc := 26) (r0 := some k) dX12_deeper_26 rfl rfl r
theorem tX12_deeper_27 {v : Value} (hv : ok1 (some v) = true := by rfl) (r : RQ G mX12_deeper d 28 [x0] (v :: v :: S) (h) P) : RQ G mX12_deeper d 27 [x0] (v :: S) h P := q_dup (M := mX12_deeper) (pc := 27) dX12_deeper_27 hv r
theorem tX12_deeper_28 {i : Nat} {vs : List Value} {v : Value} (ha : At h i (.inr (10, vs))) (hv : vs[12]? = some v) (r : RQ G mX12_deeper d 31 [x0] (v :: S) (h) P) : RQ G mX12_deeper d 28 [x0] (.ref i :: S) h P := q_get (M := mX12_deeper) (pc := 28) (kf := 12) dX12_deeper_28 (show CL[10]? = some (RX12, TX12, 25) from rfl) inA12 (by decide) rfl w1435 ha hv r
theorem tX12_deeper_31 (r : RQ G mX12_deeper d 32 [x0] (.int (nI 1) :: S) (h) P) : RQ G mX12_deeper d 31 [x0] (S) h P := q_iconst (M := mX12_deeper) (pc := 31) dX12_deeper_31 (by decide) r
theorem tX12_deeper_32 {x y : Int32} (r : RQ G mX12_deeper d 33 [x0] (.int (x + y) :: S) (h) P) : RQ G mX12_deeper d 32 [x0] (.int y :: .int x :: S) h P := q_iadd (M := mX12_deeper) (pc := 32) dX12_deeper_32 r
theorem tX12_deeper_33 {i : Nat} {vs : List Value} {v : Int32} (ha : At h i (.inr (10, vs))) (hlen : vs.length = 25) (r : RQ G mX12_deeper d 36 [x0] (S) (hset h i (.inr (10, vs.set 12 (.int v)))) P) : RQ G mX12_deeper d 33 [x0] (.int v :: .ref i :: S) h P := q_put (M := mX12_deeper) (pc := 33) (kf := 12) (host := "") dX12_deeper_33 (show CL[10]? = some (RX12, TX12, 25) from rfl) inA12 tyX12_ok nmX12 (by decide) rfl w1435 rfl (tyX12_ok 12 (by decide)) (nfit_int v) (by rw [hlen]; decide) ha r
theorem tX12_deeper_36 (hP : P (.inl none) h) : RQ G mX12_deeper d 36 [x0] ([]) h P := q_return (M := mX12_deeper) (pc := 36) dX12_deeper_36 rfl hP
end T
theorem dX12_higher_0 : decode cX12_higher 0 = .ok (.aload_n 0, 1) := by decide +kernel
theorem dX12_higher_1 : decode cX12_higher 1 = .ok (.iload_n 1, 1) := by decide +kernel
theorem dX12_higher_2 : decode cX12_higher 2 = .ok (.invokevirtual 154, 3) := by decide +kernel
theorem dX12_higher_5 : decode cX12_higher 5 = .ok (.aload_n 0, 1) := by decide +kernel
theorem dX12_higher_6 : decode cX12_higher 6 = .ok (.dup, 1) := by decide +kernel
theorem dX12_higher_7 : decode cX12_higher 7 = .ok (.getfield 151, 3) := by decide +kernel
theorem dX12_higher_10 : decode cX12_higher 10 = .ok (.iconst 1, 1) := by decide +kernel
theorem dX12_higher_11 : decode cX12_higher 11 = .ok (.isub, 1) := by decide +kernel
theorem dX12_higher_12 : decode cX12_higher 12 = .ok (.putfield 151, 3) := by decide +kernel
theorem dX12_higher_15 : decode cX12_higher 15 = .ok (.return_, 1) := by decide +kernel
section T
variable {G : GT} {d : Nat} {S : List Value} {h : AH} {P : OC → AH → Prop} {x0 x1 x2 x3 x4 x5 x6 x7 x8 x9 x10 x11 x12 x13 x14 x15 : Option Value}
theorem tX12_higher_0 {k : Nat} (r : RQ G mX12_higher d 1 [some (.ref k), x1] (.ref k :: S) (h) P) : RQ G mX12_higher d 0 [some (.ref k), x1] (S) h P := q_aload_n (M := mX12_higher) (pc := 0) (r0 := some k) dX12_higher_0 rfl rfl r
theorem tX12_higher_1 {v : Int32} (r : RQ G mX12_higher d 2 [x0, some (.int v)] (.int v :: S) (h) P) : RQ G mX12_higher d 1 [x0, some (.int v)] (S) h P := q_iload_n (M := mX12_higher) (pc := 1) dX12_higher_1 rfl rfl r
theorem tX12_higher_2 {b d2 : Nat} {vs : List Value} {a0 : Int32} {Q : AH → Prop} (hd : d2 + 1 ≤ d) (ha : At h b (.inr (10, vs))) (call : RQ G mX12_take d2 0 [some (.ref b), some (.int a0)] [] h (Rv Q)) (k : ∀ h1, Q h1 → RQ G mX12_higher d 5 [x0, x1] S h1 P) (hst : (S.map fun v => v.category).sum ≤ 8 := by exact Nat.le_of_ble_eq_true rfl)  : RQ G mX12_higher d 2 [x0, x1] (.int a0 :: .ref b :: S) h P := q_callV (M := mX12_higher) (pc := 2) (M2 := mX12_take) (As := [.int a0]) (n := 1) dX12_higher_2 rfl ⟨by decide, by decide, by decide, rfl⟩ rfl w1591 w1593 w55 w120 w1594 (show CL[10]? = some (RX12, TX12, 25) from rfl) hd (by decide) (Nat.le_of_ble_eq_true rfl) rfl ha hst call (callk_v k)
theorem tX12_higher_5 {k : Nat} (r : RQ G mX12_higher d 6 [some (.ref k), x1] (.ref k :: S) (h) P) : RQ G mX12_higher d 5 [some (.ref k), x1] (S) h P := q_aload_n (M := mX12_higher) (pc := 5) (r0 := some k) dX12_higher_5 rfl rfl r
theorem tX12_higher_6 {v : Value} (hv : ok1 (some v) = true := by rfl) (r : RQ G mX12_higher d 7 [x0, x1] (v :: v :: S) (h) P) : RQ G mX12_higher d 6 [x0, x1] (v :: S) h P := q_dup (M := mX12_higher) (pc := 6) dX12_higher_6 hv r
theorem tX12_higher_7 {i : Nat} {vs : List Value} {v : Value} (ha : At h i (.inr (10, vs))) (hv : vs[12]? = some v) (r : RQ G mX12_higher d 10 [x0, x1] (v :: S) (h) P) : RQ G mX12_higher d 7 [x0, x1] (.ref i :: S) h P := q_get (M := mX12_higher) (pc := 7) (kf := 12) dX12_higher_7 (show CL[10]? = some (RX12, TX12, 25) from rfl) inA12 (by decide) rfl w1435 ha hv r
theorem tX12_higher_10 (r : RQ G mX12_higher d 11 [x0, x1] (.int (nI 1) :: S) (h) P) : RQ G mX12_higher d 10 [x0, x1] (S) h P := q_iconst (M := mX12_higher) (pc := 10) dX12_higher_10 (by decide) r
theorem tX12_higher_11 {x y : Int32} (r : RQ G mX12_higher d 12 [x0, x1] (.int (x - y) :: S) (h) P) : RQ G mX12_higher d 11 [x0, x1] (.int y :: .int x :: S) h P := q_isub (M := mX12_higher) (pc := 11) dX12_higher_11 r
theorem tX12_higher_12 {i : Nat} {vs : List Value} {v : Int32} (ha : At h i (.inr (10, vs))) (hlen : vs.length = 25) (r : RQ G mX12_higher d 15 [x0, x1] (S) (hset h i (.inr (10, vs.set 12 (.int v)))) P) : RQ G mX12_higher d 12 [x0, x1] (.int v :: .ref i :: S) h P := q_put (M := mX12_higher) (pc := 12) (kf := 12) (host := "") dX12_higher_12 (show CL[10]? = some (RX12, TX12, 25) from rfl) inA12 tyX12_ok nmX12 (by decide) rfl w1435 rfl (tyX12_ok 12 (by decide)) (nfit_int v) (by rw [hlen]; decide) ha r
theorem tX12_higher_15 (hP : P (.inl none) h) : RQ G mX12_higher d 15 [x0, x1] ([]) h P := q_return (M := mX12_higher) (pc := 15) dX12_higher_15 rfl hP
end T
theorem dX12_mark_0 : decode cX12_mark 0 = .ok (.aload_n 0, 1) := by decide +kernel
theorem dX12_mark_1 : decode cX12_mark 1 = .ok (.getfield 132, 3) := by decide +kernel
theorem dX12_mark_4 : decode cX12_mark 4 = .ok (.ifCond .ne 10, 3) := by decide +kernel
theorem dX12_mark_7 : decode cX12_mark 7 = .ok (.aload_n 0, 1) := by decide +kernel
theorem dX12_mark_8 : decode cX12_mark 8 = .ok (.getfield 139, 3) := by decide +kernel
theorem dX12_mark_11 : decode cX12_mark 11 = .ok (.ifCond .eq 4, 3) := by decide +kernel
theorem dX12_mark_14 : decode cX12_mark 14 = .ok (.return_, 1) := by decide +kernel
theorem dX12_mark_15 : decode cX12_mark 15 = .ok (.aload_n 0, 1) := by decide +kernel
theorem dX12_mark_16 : decode cX12_mark 16 = .ok (.iload_n 1, 1) := by decide +kernel
theorem dX12_mark_17 : decode cX12_mark 17 = .ok (.putfield 139, 3) := by decide +kernel
theorem dX12_mark_20 : decode cX12_mark 20 = .ok (.aload_n 0, 1) := by decide +kernel
theorem dX12_mark_21 : decode cX12_mark 21 = .ok (.aload_n 0, 1) := by decide +kernel
theorem dX12_mark_22 : decode cX12_mark 22 = .ok (.getfield 136, 3) := by decide +kernel
theorem dX12_mark_25 : decode cX12_mark 25 = .ok (.putfield 142, 3) := by decide +kernel
theorem dX12_mark_28 : decode cX12_mark 28 = .ok (.return_, 1) := by decide +kernel
section T
variable {G : GT} {d : Nat} {S : List Value} {h : AH} {P : OC → AH → Prop} {x0 x1 x2 x3 x4 x5 x6 x7 x8 x9 x10 x11 x12 x13 x14 x15 : Option Value}
theorem tX12_mark_0 {k : Nat} (r : RQ G mX12_mark d 1 [some (.ref k), x1] (.ref k :: S) (h) P) : RQ G mX12_mark d 0 [some (.ref k), x1] (S) h P := q_aload_n (M := mX12_mark) (pc := 0) (r0 := some k) dX12_mark_0 rfl rfl r
theorem tX12_mark_1 {i : Nat} {vs : List Value} {v : Value} (ha : At h i (.inr (10, vs))) (hv : vs[9]? = some v) (r : RQ G mX12_mark d 4 [x0, x1] (v :: S) (h) P) : RQ G mX12_mark d 1 [x0, x1] (.ref i :: S) h P := q_get (M := mX12_mark) (pc := 1) (kf := 9) dX12_mark_1 (show CL[10]? = some (RX12, TX12, 25) from rfl) inA12 (by decide) rfl w1432 ha hv r
theorem tX12_mark_4 {x : Int32} (kt : ¬ x = 0 → RQ G mX12_mark d 14 [x0, x1] S h P) (kf : x = 0 → RQ G mX12_mark d 7 [x0, x1] S h P) : RQ G mX12_mark d 4 [x0, x1] (.int x :: S) h P := q_if_ne (M := mX12_mark) (pc := 4) dX12_mark_4 (by decide) kt kf
theorem tX12_mark_7 {k : Nat} (r : RQ G mX12_mark d 8 [some (.ref k), x1] (.ref k :: S) (h) P) : RQ G mX12_mark d 7 [some (.ref k), x1] (S) h P := q_aload_n (M := mX12_mark) (pc := 7) (r0 := some k) dX12_mark_7 rfl rfl r
theorem tX12_mark_8 {i : Nat} {vs : List Value} {v : Value} (ha : At h i (.inr (10, vs))) (hv : vs[10]? = some v) (r : RQ G mX12_mark d 11 [x0, x1] (v :: S) (h) P) : RQ G mX12_mark d 8 [x0, x1] (.ref i :: S) h P := q_get (M := mX12_mark) (pc := 8) (kf := 10) dX12_mark_8 (show CL[10]? = some (RX12, TX12, 25) from rfl) inA12 (by decide) rfl w1433 ha hv r
theorem tX12_mark_11 {x : Int32} (kt : x = 0 → RQ G mX12_mark d 15 [x0, x1] S h P) (kf : ¬ x = 0 → RQ G mX12_mark d 14 [x0, x1] S h P) : RQ G mX12_mark d 11 [x0, x1] (.int x :: S) h P := q_if_eq (M := mX12_mark) (pc := 11) dX12_mark_11 (by decide) kt kf
theorem tX12_mark_14 (hP : P (.inl none) h) : RQ G mX12_mark d 14 [x0, x1] ([]) h P := q_return (M := mX12_mark) (pc := 14) dX12_mark_14 rfl hP
theorem tX12_mark_15 {k : Nat} (r : RQ G mX12_mark d 16 [some (.ref k), x1] (.ref k :: S) (h) P) : RQ G mX12_mark d 15 [some (.ref k), x1] (S) h P := q_aload_n (M := mX12_mark) (pc := 15) (r0 := some k) dX12_mark_15 rfl rfl r
theorem tX12_mark_16 {v : Int32} (r : RQ G mX12_mark d 17 [x0, some (.int v)] (.int v :: S) (h) P) : RQ G mX12_mark d 16 [x0, some (.int v)] (S) h P := q_iload_n (M := mX12_mark) (pc := 16) dX12_mark_16 rfl rfl r
theorem tX12_mark_17 {i : Nat} {vs : List Value} {v : Int32} (ha : At h i (.inr (10, vs))) (hlen : vs.length = 25) (r : RQ G mX12_mark d 20 [x0, x1] (S) (hset h i (.inr (10, vs.set 10 (.int v)))) P) : RQ G mX12_mark d 17 [x0, x1] (.int v :: .ref i :: S) h P := q_put (M := mX12_mark) (pc := 17) (kf := 10) (host := "") dX12_mark_17 (show CL[10]? = some (RX12, TX12, 25) from rfl) inA12 tyX12_ok nmX12 (by decide) rfl w1433 rfl (tyX12_ok 10 (by decide)) (nfit_int v) (by rw [hlen]; decide) ha r
theorem tX12_mark_20 {k : Nat} (r : RQ G mX12_mark d 21 [some (.ref k), x1] (.ref k :: S) (h) P) : RQ G mX12_mark d 20 [some (.ref k), x1] (S) h P := q_aload_n (M := mX12_mark) (pc := 20) (r0 := some k) dX12_mark_20 rfl rfl r
theorem tX12_mark_21 {k : Nat} (r : RQ G mX12_mark d 22 [some (.ref k), x1] (.ref k :: S) (h) P) : RQ G mX12_mark d 21 [some (.ref k), x1] (S) h P := q_aload_n (M := mX12_mark) (pc := 21) (r0 := some k) dX12_mark_21 rfl rfl r
theorem tX12_mark_22 {i : Nat} {vs : List Value} {v : Value} (ha : At h i (.inr (10, vs))) (hv : vs[8]? = some v) (r : RQ G mX12_mark d 25 [x0, x1] (v :: S) (h) P) : RQ G mX12_mark d 22 [x0, x1] (.ref i :: S) h P := q_get (M := mX12_mark) (pc := 22) (kf := 8) dX12_mark_22 (show CL[10]? = some (RX12, TX12, 25) from rfl) inA12 (by decide) rfl w1431 ha hv r
theorem tX12_mark_25 {i : Nat} {vs : List Value} {v : Int32} (ha : At h i (.inr (10, vs))) (hlen : vs.length = 25) (r : RQ G mX12_mark d 28 [x0, x1] (S) (hset h i (.inr (10, vs.set 11 (.int v)))) P) : RQ G mX12_mark d 25 [x0, x1] (.int v :: .ref i :: S) h P := q_put (M := mX12_mark) (pc := 25) (kf := 11) (host := "") dX12_mark_25 (show CL[10]? = some (RX12, TX12, 25) from rfl) inA12 tyX12_ok nmX12 (by decide) rfl w1434 rfl (tyX12_ok 11 (by decide)) (nfit_int v) (by rw [hlen]; decide) ha r
theorem tX12_mark_28 (hP : P (.inl none) h) : RQ G mX12_mark d 28 [x0, x1] ([]) h P := q_return (M := mX12_mark) (pc := 28) dX12_mark_28 rfl hP
end T
theorem dX12_node_0 : decode cX12_node 0 = .ok (.aload_n 0, 1) := by decide +kernel
theorem dX12_node_1 : decode cX12_node 1 = .ok (.getfield 45, 3) := by decide +kernel
theorem dX12_node_4 : decode cX12_node 4 = .ok (.getfield 158, 3) := by decide +kernel
theorem dX12_node_7 : decode cX12_node 7 = .ok (.istore 4, 2) := by decide +kernel
theorem dX12_node_9 : decode cX12_node 9 = .ok (.aload_n 0, 1) := by decide +kernel
theorem dX12_node_10 : decode cX12_node 10 = .ok (.getfield 45, 3) := by decide +kernel
theorem dX12_node_13 : decode cX12_node 13 = .ok (.getfield 161, 3) := by decide +kernel
theorem dX12_node_16 : decode cX12_node 16 = .ok (.iload 4, 2) := by decide +kernel
theorem dX12_node_18 : decode cX12_node 18 = .ok (.iload_n 1, 1) := by decide +kernel
theorem dX12_node_19 : decode cX12_node 19 = .ok (.iastore, 1) := by decide +kernel
theorem dX12_node_20 : decode cX12_node 20 = .ok (.aload_n 0, 1) := by decide +kernel
theorem dX12_node_21 : decode cX12_node 21 = .ok (.getfield 45, 3) := by decide +kernel
theorem dX12_node_24 : decode cX12_node 24 = .ok (.getfield 164, 3) := by decide +kernel
theorem dX12_node_27 : decode cX12_node 27 = .ok (.iload 4, 2) := by decide +kernel
theorem dX12_node_29 : decode cX12_node 29 = .ok (.iload_n 2, 1) := by decide +kernel
theorem dX12_node_30 : decode cX12_node 30 = .ok (.iastore, 1) := by decide +kernel
theorem dX12_node_31 : decode cX12_node 31 = .ok (.aload_n 0, 1) := by decide +kernel
theorem dX12_node_32 : decode cX12_node 32 = .ok (.getfield 45, 3) := by decide +kernel
theorem dX12_node_35 : decode cX12_node 35 = .ok (.getfield 167, 3) := by decide +kernel
theorem dX12_node_38 : decode cX12_node 38 = .ok (.iload 4, 2) := by decide +kernel
theorem dX12_node_40 : decode cX12_node 40 = .ok (.iload_n 3, 1) := by decide +kernel
theorem dX12_node_41 : decode cX12_node 41 = .ok (.iastore, 1) := by decide +kernel
theorem dX12_node_42 : decode cX12_node 42 = .ok (.aload_n 0, 1) := by decide +kernel
theorem dX12_node_43 : decode cX12_node 43 = .ok (.getfield 45, 3) := by decide +kernel
theorem dX12_node_46 : decode cX12_node 46 = .ok (.dup, 1) := by decide +kernel
theorem dX12_node_47 : decode cX12_node 47 = .ok (.getfield 158, 3) := by decide +kernel
theorem dX12_node_50 : decode cX12_node 50 = .ok (.iconst 1, 1) := by decide +kernel
theorem dX12_node_51 : decode cX12_node 51 = .ok (.iadd, 1) := by decide +kernel
theorem dX12_node_52 : decode cX12_node 52 = .ok (.putfield 158, 3) := by decide +kernel
theorem dX12_node_55 : decode cX12_node 55 = .ok (.iload 4, 2) := by decide +kernel
theorem dX12_node_57 : decode cX12_node 57 = .ok (.ireturn, 1) := by decide +kernel
section T
variable {G : GT} {d : Nat} {S : List Value} {h : AH} {P : OC → AH → Prop} {x0 x1 x2 x3 x4 x5 x6 x7 x8 x9 x10 x11 x12 x13 x14 x15 : Option Value}
theorem tX12_node_0 {k : Nat} (r : RQ G mX12_node d 1 [some (.ref k), x1, x2, x3, x4] (.ref k :: S) (h) P) : RQ G mX12_node d 0 [some (.ref k), x1, x2, x3, x4] (S) h P := q_aload_n (M := mX12_node) (pc := 0) (r0 := some k) dX12_node_0 rfl rfl r
theorem tX12_node_1 {i : Nat} {vs : List Value} {v : Value} (ha : At h i (.inr (10, vs))) (hv : vs[18]? = some v) (r : RQ G mX12_node d 4 [x0, x1, x2, x3, x4] (v :: S) (h) P) : RQ G mX12_node d 1 [x0, x1, x2, x3, x4] (.ref i :: S) h P := q_get (M := mX12_node) (pc := 1) (kf := 18) dX12_node_1 (show CL[10]? = some (RX12, TX12, 25) from rfl) inA12 (by decide) rfl w1441 ha hv r
theorem tX12_node_4 {i : Nat} {vs : List Value} {v : Value} (ha : At h i (.inr (9, vs))) (hv : vs[20]? = some v) (r : RQ G mX12_node d 7 [x0, x1, x2, x3, x4] (v :: S) (h) P) : RQ G mX12_node d 4 [x0, x1, x2, x3, x4] (.ref i :: S) h P := q_getN (M := mX12_node) (pc := 4) (kf := 20) dX12_node_4 (show CL[9]? = some (RX11, TX11, 24) from rfl) inA11 (by decide) rfl v1360 ha hv r
theorem tX12_node_7 {v : Int32} (ho : ok1 x3 = true := by rfl) (r : RQ G mX12_node d 9 [x0, x1, x2, x3, some (.int v)] (S) (h) P) : RQ G mX12_node d 7 [x0, x1, x2, x3, x4] (.int v :: S) h P := q_istore (M := mX12_node) (pc := 7) dX12_node_7 (Nat.le_of_ble_eq_true rfl) ho r
theorem tX12_node_9 {k : Nat} (r : RQ G mX12_node d 10 [some (.ref k), x1, x2, x3, x4] (.ref k :: S) (h) P) : RQ G mX12_node d 9 [some (.ref k), x1, x2, x3, x4] (S) h P := q_aload_n (M := mX12_node) (pc := 9) (r0 := some k) dX12_node_9 rfl rfl r
theorem tX12_node_10 {i : Nat} {vs : List Value} {v : Value} (ha : At h i (.inr (10, vs))) (hv : vs[18]? = some v) (r : RQ G mX12_node d 13 [x0, x1, x2, x3, x4] (v :: S) (h) P) : RQ G mX12_node d 10 [x0, x1, x2, x3, x4] (.ref i :: S) h P := q_get (M := mX12_node) (pc := 10) (kf := 18) dX12_node_10 (show CL[10]? = some (RX12, TX12, 25) from rfl) inA12 (by decide) rfl w1441 ha hv r
theorem tX12_node_13 {i : Nat} {vs : List Value} {v : Value} (ha : At h i (.inr (9, vs))) (hv : vs[21]? = some v) (r : RQ G mX12_node d 16 [x0, x1, x2, x3, x4] (v :: S) (h) P) : RQ G mX12_node d 13 [x0, x1, x2, x3, x4] (.ref i :: S) h P := q_getN (M := mX12_node) (pc := 13) (kf := 21) dX12_node_13 (show CL[9]? = some (RX11, TX11, 24) from rfl) inA11 (by decide) rfl v1362 ha hv r
theorem tX12_node_16 {v : Int32} (r : RQ G mX12_node d 18 [x0, x1, x2, x3, some (.int v)] (.int v :: S) (h) P) : RQ G mX12_node d 16 [x0, x1, x2, x3, some (.int v)] (S) h P := q_iload (M := mX12_node) (pc := 16) dX12_node_16 rfl r
theorem tX12_node_18 {v : Int32} (r : RQ G mX12_node d 19 [x0, some (.int v), x2, x3, x4] (.int v :: S) (h) P) : RQ G mX12_node d 18 [x0, some (.int v), x2, x3, x4] (S) h P := q_iload_n (M := mX12_node) (pc := 18) dX12_node_18 rfl rfl r
theorem tX12_node_19 {a n j : Nat} {x : Int32} {v : Int32} {f : Nat → Int32} (ha : At h a (.inl (0, n, .inl f))) (hx : x = nI j) (hj : j < n) (hn : n < 2147483648) (r : RQ G mX12_node d 20 [x0, x1, x2, x3, x4] (S) (hset h a (.inl (0, n, .inl (upd f j v)))) P) : RQ G mX12_node d 19 [x0, x1, x2, x3, x4] (.int v :: .int x :: .ref a :: S) h P := q_iast (M := mX12_node) (pc := 19) dX12_node_19 ha hx hj hn r
theorem tX12_node_20 {k : Nat} (r : RQ G mX12_node d 21 [some (.ref k), x1, x2, x3, x4] (.ref k :: S) (h) P) : RQ G mX12_node d 20 [some (.ref k), x1, x2, x3, x4] (S) h P := q_aload_n (M := mX12_node) (pc := 20) (r0 := some k) dX12_node_20 rfl rfl r
theorem tX12_node_21 {i : Nat} {vs : List Value} {v : Value} (ha : At h i (.inr (10, vs))) (hv : vs[18]? = some v) (r : RQ G mX12_node d 24 [x0, x1, x2, x3, x4] (v :: S) (h) P) : RQ G mX12_node d 21 [x0, x1, x2, x3, x4] (.ref i :: S) h P := q_get (M := mX12_node) (pc := 21) (kf := 18) dX12_node_21 (show CL[10]? = some (RX12, TX12, 25) from rfl) inA12 (by decide) rfl w1441 ha hv r
theorem tX12_node_24 {i : Nat} {vs : List Value} {v : Value} (ha : At h i (.inr (9, vs))) (hv : vs[22]? = some v) (r : RQ G mX12_node d 27 [x0, x1, x2, x3, x4] (v :: S) (h) P) : RQ G mX12_node d 24 [x0, x1, x2, x3, x4] (.ref i :: S) h P := q_getN (M := mX12_node) (pc := 24) (kf := 22) dX12_node_24 (show CL[9]? = some (RX11, TX11, 24) from rfl) inA11 (by decide) rfl v1364 ha hv r
theorem tX12_node_27 {v : Int32} (r : RQ G mX12_node d 29 [x0, x1, x2, x3, some (.int v)] (.int v :: S) (h) P) : RQ G mX12_node d 27 [x0, x1, x2, x3, some (.int v)] (S) h P := q_iload (M := mX12_node) (pc := 27) dX12_node_27 rfl r
theorem tX12_node_29 {v : Int32} (r : RQ G mX12_node d 30 [x0, x1, some (.int v), x3, x4] (.int v :: S) (h) P) : RQ G mX12_node d 29 [x0, x1, some (.int v), x3, x4] (S) h P := q_iload_n (M := mX12_node) (pc := 29) dX12_node_29 rfl rfl r
theorem tX12_node_30 {a n j : Nat} {x : Int32} {v : Int32} {f : Nat → Int32} (ha : At h a (.inl (0, n, .inl f))) (hx : x = nI j) (hj : j < n) (hn : n < 2147483648) (r : RQ G mX12_node d 31 [x0, x1, x2, x3, x4] (S) (hset h a (.inl (0, n, .inl (upd f j v)))) P) : RQ G mX12_node d 30 [x0, x1, x2, x3, x4] (.int v :: .int x :: .ref a :: S) h P := q_iast (M := mX12_node) (pc := 30) dX12_node_30 ha hx hj hn r
theorem tX12_node_31 {k : Nat} (r : RQ G mX12_node d 32 [some (.ref k), x1, x2, x3, x4] (.ref k :: S) (h) P) : RQ G mX12_node d 31 [some (.ref k), x1, x2, x3, x4] (S) h P := q_aload_n (M := mX12_node) (pc := 31) (r0 := some k) dX12_node_31 rfl rfl r
theorem tX12_node_32 {i : Nat} {vs : List Value} {v : Value} (ha : At h i (.inr (10, vs))) (hv : vs[18]? = some v) (r : RQ G mX12_node d 35 [x0, x1, x2, x3, x4] (v :: S) (h) P) : RQ G mX12_node d 32 [x0, x1, x2, x3, x4] (.ref i :: S) h P := q_get (M := mX12_node) (pc := 32) (kf := 18) dX12_node_32 (show CL[10]? = some (RX12, TX12, 25) from rfl) inA12 (by decide) rfl w1441 ha hv r
theorem tX12_node_35 {i : Nat} {vs : List Value} {v : Value} (ha : At h i (.inr (9, vs))) (hv : vs[23]? = some v) (r : RQ G mX12_node d 38 [x0, x1, x2, x3, x4] (v :: S) (h) P) : RQ G mX12_node d 35 [x0, x1, x2, x3, x4] (.ref i :: S) h P := q_getN (M := mX12_node) (pc := 35) (kf := 23) dX12_node_35 (show CL[9]? = some (RX11, TX11, 24) from rfl) inA11 (by decide) rfl v1366 ha hv r
theorem tX12_node_38 {v : Int32} (r : RQ G mX12_node d 40 [x0, x1, x2, x3, some (.int v)] (.int v :: S) (h) P) : RQ G mX12_node d 38 [x0, x1, x2, x3, some (.int v)] (S) h P := q_iload (M := mX12_node) (pc := 38) dX12_node_38 rfl r
theorem tX12_node_40 {v : Int32} (r : RQ G mX12_node d 41 [x0, x1, x2, some (.int v), x4] (.int v :: S) (h) P) : RQ G mX12_node d 40 [x0, x1, x2, some (.int v), x4] (S) h P := q_iload_n (M := mX12_node) (pc := 40) dX12_node_40 rfl rfl r
theorem tX12_node_41 {a n j : Nat} {x : Int32} {v : Int32} {f : Nat → Int32} (ha : At h a (.inl (0, n, .inl f))) (hx : x = nI j) (hj : j < n) (hn : n < 2147483648) (r : RQ G mX12_node d 42 [x0, x1, x2, x3, x4] (S) (hset h a (.inl (0, n, .inl (upd f j v)))) P) : RQ G mX12_node d 41 [x0, x1, x2, x3, x4] (.int v :: .int x :: .ref a :: S) h P := q_iast (M := mX12_node) (pc := 41) dX12_node_41 ha hx hj hn r
theorem tX12_node_42 {k : Nat} (r : RQ G mX12_node d 43 [some (.ref k), x1, x2, x3, x4] (.ref k :: S) (h) P) : RQ G mX12_node d 42 [some (.ref k), x1, x2, x3, x4] (S) h P := q_aload_n (M := mX12_node) (pc := 42) (r0 := some k) dX12_node_42 rfl rfl r
theorem tX12_node_43 {i : Nat} {vs : List Value} {v : Value} (ha : At h i (.inr (10, vs))) (hv : vs[18]? = some v) (r : RQ G mX12_node d 46 [x0, x1, x2, x3, x4] (v :: S) (h) P) : RQ G mX12_node d 43 [x0, x1, x2, x3, x4] (.ref i :: S) h P := q_get (M := mX12_node) (pc := 43) (kf := 18) dX12_node_43 (show CL[10]? = some (RX12, TX12, 25) from rfl) inA12 (by decide) rfl w1441 ha hv r
theorem tX12_node_46 {v : Value} (hv : ok1 (some v) = true := by rfl) (r : RQ G mX12_node d 47 [x0, x1, x2, x3, x4] (v :: v :: S) (h) P) : RQ G mX12_node d 46 [x0, x1, x2, x3, x4] (v :: S) h P := q_dup (M := mX12_node) (pc := 46) dX12_node_46 hv r
theorem tX12_node_47 {i : Nat} {vs : List Value} {v : Value} (ha : At h i (.inr (9, vs))) (hv : vs[20]? = some v) (r : RQ G mX12_node d 50 [x0, x1, x2, x3, x4] (v :: S) (h) P) : RQ G mX12_node d 47 [x0, x1, x2, x3, x4] (.ref i :: S) h P := q_getN (M := mX12_node) (pc := 47) (kf := 20) dX12_node_47 (show CL[9]? = some (RX11, TX11, 24) from rfl) inA11 (by decide) rfl v1360 ha hv r
theorem tX12_node_50 (r : RQ G mX12_node d 51 [x0, x1, x2, x3, x4] (.int (nI 1) :: S) (h) P) : RQ G mX12_node d 50 [x0, x1, x2, x3, x4] (S) h P := q_iconst (M := mX12_node) (pc := 50) dX12_node_50 (by decide) r
theorem tX12_node_51 {x y : Int32} (r : RQ G mX12_node d 52 [x0, x1, x2, x3, x4] (.int (x + y) :: S) (h) P) : RQ G mX12_node d 51 [x0, x1, x2, x3, x4] (.int y :: .int x :: S) h P := q_iadd (M := mX12_node) (pc := 51) dX12_node_51 r
theorem tX12_node_52 {i : Nat} {vs : List Value} {v : Int32} (ha : At h i (.inr (9, vs))) (hlen : vs.length = 24) (r : RQ G mX12_node d 55 [x0, x1, x2, x3, x4] (S) (hset h i (.inr (9, vs.set 20 (.int v)))) P) : RQ G mX12_node d 52 [x0, x1, x2, x3, x4] (.int v :: .ref i :: S) h P := q_putN (M := mX12_node) (pc := 52) (kf := 20) dX12_node_52 (show CL[9]? = some (RX11, TX11, 24) from rfl) inA11 tyX11_ok nmX11 (by decide) rfl v1360 rfl (tyX11_ok 20 (by decide)) (nfit_int v) (by rw [hlen]; decide) ha r
theorem tX12_node_55 {v : Int32} (r : RQ G mX12_node d 57 [x0, x1, x2, x3, some (.int v)] (.int v :: S) (h) P) : RQ G mX12_node d 55 [x0, x1, x2, x3, some (.int v)] (S) h P := q_iload (M := mX12_node) (pc := 55) dX12_node_55 rfl r
theorem tX12_node_57 {x : Int32} (hP : P (.inl (some (.int x))) h) : RQ G mX12_node d 57 [x0, x1, x2, x3, x4] ([.int x]) h P := q_ireturn (M := mX12_node) (pc := 57) (ty := .int) dX12_node_57 rfl rfl hP
end T
theorem dX12_isSameName_0 : decode cX12_isSameName 0 = .ok (.aload_n 0, 1) := by decide +kernel
theorem dX12_isSameName_1 : decode cX12_isSameName 1 = .ok (.getfield 26, 3) := by decide +kernel
theorem dX12_isSameName_4 : decode cX12_isSameName 4 = .ok (.iload_n 1, 1) := by decide +kernel
theorem dX12_isSameName_5 : decode cX12_isSameName 5 = .ok (.iaload, 1) := by decide +kernel
theorem dX12_isSameName_6 : decode cX12_isSameName 6 = .ok (.aload_n 0, 1) := by decide +kernel
theorem dX12_isSameName_7 : decode cX12_isSameName 7 = .ok (.getfield 26, 3) := by decide +kernel
theorem dX12_isSameName_10 : decode cX12_isSameName 10 = .ok (.iload_n 2, 1) := by decide +kernel
theorem dX12_isSameName_11 : decode cX12_isSameName 11 = .ok (.iaload, 1) := by decide +kernel
theorem dX12_isSameName_12 : decode cX12_isSameName 12 = .ok (.if_icmp .eq 5, 3) := by decide +kernel
theorem dX12_isSameName_15 : decode cX12_isSameName 15 = .ok (.iconst 0, 1) := by decide +kernel
theorem dX12_isSameName_16 : decode cX12_isSameName 16 = .ok (.ireturn, 1) := by decide +kernel
theorem dX12_isSameName_17 : decode cX12_isSameName 17 = .ok (.iconst 0, 1) := by decide +kernel
theorem dX12_isSameName_18 : decode cX12_isSameName 18 = .ok (.istore_n 3, 1) := by decide +kernel
theorem dX12_isSameName_19 : decode cX12_isSameName 19 = .ok (.iload_n 3, 1) := by decide +kernel
theorem dX12_isSameName_20 : decode cX12_isSameName 20 = .ok (.aload_n 0, 1) := by decide +kernel
theorem dX12_isSameName_21 : decode cX12_isSameName 21 = .ok (.getfield 26, 3) := by decide +kernel
theorem dX12_isSameName_24 : decode cX12_isSameName 24 = .ok (.iload_n 1, 1) := by decide +kernel
theorem dX12_isSameName_25 : decode cX12_isSameName 25 = .ok (.iaload, 1) := by decide +kernel
theorem dX12_isSameName_26 : decode cX12_isSameName 26 = .ok (.if_icmp .ge 40, 3) := by decide +kernel
theorem dX12_isSameName_29 : decode cX12_isSameName 29 = .ok (.aload_n 0, 1) := by decide +kernel
theorem dX12_isSameName_30 : decode cX12_isSameName 30 = .ok (.getfield 9, 3) := by decide +kernel
theorem dX12_isSameName_33 : decode cX12_isSameName 33 = .ok (.aload_n 0, 1) := by decide +kernel
theorem dX12_isSameName_34 : decode cX12_isSameName 34 = .ok (.getfield 23, 3) := by decide +kernel
theorem dX12_isSameName_37 : decode cX12_isSameName 37 = .ok (.iload_n 1, 1) := by decide +kernel
theorem dX12_isSameName_38 : decode cX12_isSameName 38 = .ok (.iaload, 1) := by decide +kernel
theorem dX12_isSameName_39 : decode cX12_isSameName 39 = .ok (.iload_n 3, 1) := by decide +kernel
theorem dX12_isSameName_40 : decode cX12_isSameName 40 = .ok (.iadd, 1) := by decide +kernel
theorem dX12_isSameName_41 : decode cX12_isSameName 41 = .ok (.iaload, 1) := by decide +kernel
theorem dX12_isSameName_42 : decode cX12_isSameName 42 = .ok (.aload_n 0, 1) := by decide +kernel
theorem dX12_isSameName_43 : decode cX12_isSameName 43 = .ok (.getfield 9, 3) := by decide +kernel
theorem dX12_isSameName_46 : decode cX12_isSameName 46 = .ok (.aload_n 0, 1) := by decide +kernel
theorem dX12_isSameName_47 : decode cX12_isSameName 47 = .ok (.getfield 23, 3) := by decide +kernel
theorem dX12_isSameName_50 : decode cX12_isSameName 50 = .ok (.iload_n 2, 1) := by decide +kernel
theorem dX12_isSameName_51 : decode cX12_isSameName 51 = .ok (.iaload, 1) := by decide +kernel
theorem dX12_isSameName_52 : decode cX12_isSameName 52 = .ok (.iload_n 3, 1) := by decide +kernel
theorem dX12_isSameName_53 : decode cX12_isSameName 53 = .ok (.iadd, 1) := by decide +kernel
theorem dX12_isSameName_54 : decode cX12_isSameName 54 = .ok (.iaload, 1) := by decide +kernel
theorem dX12_isSameName_55 : decode cX12_isSameName 55 = .ok (.if_icmp .eq 5, 3) := by decide +kernel
theorem dX12_isSameName_58 : decode cX12_isSameName 58 = .ok (.iconst 0, 1) := by decide +kernel
theorem dX12_isSameName_59 : decode cX12_isSameName 59 = .ok (.ireturn, 1) := by decide +kernel
theorem dX12_isSameName_60 : decode cX12_isSameName 60 = .ok (.iinc 3 1, 3) := by decide +kernel
theorem dX12_isSameName_63 : decode cX12_isSameName 63 = .ok (.goto (-44), 3) := by decide +kernel
theorem dX12_isSameName_66 : decode cX12_isSameName 66 = .ok (.iconst 1, 1) := by decide +kernel
theorem dX12_isSameName_67 : decode cX12_isSameName 67 = .ok (.ireturn, 1) := by decide +kernel
section T
variable {G : GT} {d : Nat} {S : List Value} {h : AH} {P : OC → AH → Prop} {x0 x1 x2 x3 x4 x5 x6 x7 x8 x9 x10 x11 x12 x13 x14 x15 : Option Value}
theorem tX12_isSameName_0 {k : Nat} (r : RQ G mX12_isSameName d 1 [some (.ref k), x1, x2, x3] (.ref k :: S) (h) P) : RQ G mX12_isSameName d 0 [some (.ref k), x1, x2, x3] (S) h P := q_aload_n (M := mX12_isSameName) (pc := 0) (r0 := some k) dX12_isSameName_0 rfl rfl r
theorem tX12_isSameName_1 {i : Nat} {vs : List Value} {v : Value} (ha : At h i (.inr (10, vs))) (hv : vs[7]? = some v) (r : RQ G mX12_isSameName d 4 [x0, x1, x2, x3] (v :: S) (h) P) : RQ G mX12_isSameName d 1 [x0, x1, x2, x3] (.ref i :: S) h P := q_get (M := mX12_isSameName) (pc := 1) (kf := 7) dX12_isSameName_1 (show CL[10]? = some (RX12, TX12, 25) from rfl) inA12 (by decide) rfl w1430 ha hv r
theorem tX12_isSameName_4 {v : Int32} (r : RQ G mX12_isSameName d 5 [x0, some (.int v), x2, x3] (.int v :: S) (h) P) : RQ G mX12_isSameName d 4 [x0, some (.int v), x2, x3] (S) h P := q_iload_n (M := mX12_isSameName) (pc := 4) dX12_isSameName_4 rfl rfl r
theorem tX12_isSameName_5 {a n j : Nat} {x : Int32} {f : Nat → Int32} (ha : At h a (.inl (0, n, .inl f))) (hx : x = nI j) (hj : j < n) (hn : n < 2147483648) (r : RQ G mX12_isSameName d 6 [x0, x1, x2, x3] (.int (f j) :: S) (h) P) : RQ G mX12_isSameName d 5 [x0, x1, x2, x3] (.int x :: .ref a :: S) h P := q_iald (M := mX12_isSameName) (pc := 5) dX12_isSameName_5 ha hx hj hn r
theorem tX12_isSameName_6 {k : Nat} (r : RQ G mX12_isSameName d 7 [some (.ref k), x1, x2, x3] (.ref k :: S) (h) P) : RQ G mX12_isSameName d 6 [some (.ref k), x1, x2, x3] (S) h P := q_aload_n (M := mX12_isSameName) (pc := 6) (r0 := some k) dX12_isSameName_6 rfl rfl r
theorem tX12_isSameName_7 {i : Nat} {vs : List Value} {v : Value} (ha : At h i (.inr (10, vs))) (hv : vs[7]? = some v) (r : RQ G mX12_isSameName d 10 [x0, x1, x2, x3] (v :: S) (h) P) : RQ G mX12_isSameName d 7 [x0, x1, x2, x3] (.ref i :: S) h P := q_get (M := mX12_isSameName) (pc := 7) (kf := 7) dX12_isSameName_7 (show CL[10]? = some (RX12, TX12, 25) from rfl) inA12 (by decide) rfl w1430 ha hv r
theorem tX12_isSameName_10 {v : Int32} (r : RQ G mX12_isSameName d 11 [x0, x1, some (.int v), x3] (.int v :: S) (h) P) : RQ G mX12_isSameName d 10 [x0, x1, some (.int v), x3] (S) h P := q_iload_n (M := mX12_isSameName) (pc := 10) dX12_isSameName_10 rfl rfl r
theorem tX12_isSameName_11 {a n j : Nat} {x : Int32} {f : Nat → Int32} (ha : At h a (.inl (0, n, .inl f))) (hx : x = nI j) (hj : j < n) (hn : n < 2147483648) (r : RQ G mX12_isSameName d 12 [x0, x1, x2, x3] (.int (f j) :: S) (h) P) : RQ G mX12_isSameName d 11 [x0, x1, x2, x3] (.int x :: .ref a :: S) h P := q_iald (M := mX12_isSameName) (pc := 11) dX12_isSameName_11 ha hx hj hn r
theorem tX12_isSameName_12 {x y : Int32} (kt : x = y → RQ G mX12_isSameName d 17 [x0, x1, x2, x3] S h P) (kf : ¬ x = y → RQ G mX12_isSameName d 15 [x0, x1, x2, x3] S h P) : RQ G mX12_isSameName d 12 [x0, x1, x2, x3] (.int y :: .int x :: S) h P := q_icmp_eq (M := mX12_isSameName) (pc := 12) dX12_isSameName_12 (by decide) kt kf
theorem tX12_isSameName_15 (r : RQ G mX12_isSameName d 16 [x0, x1, x2, x3] (.int (nI 0) :: S) (h) P) : RQ G mX12_isSameName d 15 [x0, x1, x2, x3] (S) h P := q_iconst (M := mX12_isSameName) (pc := 15) dX12_isSameName_15 (by decide) r
theorem tX12_isSameName_16 {x : Int32} (hb : x = nI 0 ∨ x = nI 1) (hP : P (.inl (some (.int x))) h) : RQ G mX12_isSameName d 16 [x0, x1, x2, x3] ([.int x]) h P := q_ireturn (M := mX12_isSameName) (pc := 16) (ty := .boolean) dX12_isSameName_16 rfl (nar_bool hb) hP
theorem tX12_isSameName_17 (r : RQ G mX12_isSameName d 18 [x0, x1, x2, x3] (.int (nI 0) :: S) (h) P) : RQ G mX12_isSameName d 17 [x0, x1, x2, x3] (S) h P := q_iconst (M := mX12_isSameName) (pc := 17) dX12_isSameName_17 (by decide) r
theorem tX12_isSameName_18 {v : Int32} (ho : ok1 x2 = true := by rfl) (r : RQ G mX12_isSameName d 19 [x0, x1, x2, some (.int v)] (S) (h) P) : RQ G mX12_isSameName d 18 [x0, x1, x2, x3] (.int v :: S) h P := q_istore_n (M := mX12_isSameName) (pc := 18) dX12_isSameName_18 rfl (Nat.le_of_ble_eq_true rfl) ho r
theorem tX12_isSameName_19 {v : Int32} (r : RQ G mX12_isSameName d 20 [x0, x1, x2, some (.int v)] (.int v :: S) (h) P) : RQ G mX12_isSameName d 19 [x0, x1, x2, some (.int v)] (S) h P := q_iload_n (M := mX12_isSameName) (pc := 19) dX12_isSameName_19 rfl rfl r
theorem tX12_isSameName_20 {k : Nat} (r : RQ G mX12_isSameName d 21 [some (.ref k), x1, x2, x3] (.ref k :: S) (h) P) : RQ G mX12_isSameName d 20 [some (.ref k), x1, x2, x3] (S) h P := q_aload_n (M := mX12_isSameName) (pc := 20) (r0 := some k) dX12_isSameName_20 rfl rfl r
theorem tX12_isSameName_21 {i : Nat} {vs : List Value} {v : Value} (ha : At h i (.inr (10, vs))) (hv : vs[7]? = some v) (r : RQ G mX12_isSameName d 24 [x0, x1, x2, x3] (v :: S) (h) P) : RQ G mX12_isSameName d 21 [x0, x1, x2, x3] (.ref i :: S) h P := q_get (M := mX12_isSameName) (pc := 21) (kf := 7) dX12_isSameName_21 (show CL[10]? = some (RX12, TX12, 25) from rfl) inA12 (by decide) rfl w1430 ha hv r
theorem tX12_isSameName_24 {v : Int32} (r : RQ G mX12_isSameName d 25 [x0, some (.int v), x2, x3] (.int v :: S) (h) P) : RQ G mX12_isSameName d 24 [x0, some (.int v), x2, x3] (S) h P := q_iload_n (M := mX12_isSameName) (pc := 24) dX12_isSameName_24 rfl rfl r
theorem tX12_isSameName_25 {a n j : Nat} {x : Int32} {f : Nat → Int32} (ha : At h a (.inl (0, n, .inl f))) (hx : x = nI j) (hj : j < n) (hn : n < 2147483648) (r : RQ G mX12_isSameName d 26 [x0, x1, x2, x3] (.int (f j) :: S) (h) P) : RQ G mX12_isSameName d 25 [x0, x1, x2, x3] (.int x :: .ref a :: S) h P := q_iald (M := mX12_isSameName) (pc := 25) dX12_isSameName_25 ha hx hj hn r
theorem tX12_isSameName_26 {x y : Int32} (kt : y ≤ x → RQ G mX12_isSameName d 66 [x0, x1, x2, x3] S h P) (kf : ¬ y ≤ x → RQ G mX12_isSameName d 29 [x0, x1, x2, x3] S h P) : RQ G mX12_isSameName d 26 [x0, x1, x2, x3] (.int y :: .int x :: S) h P := q_icmp_ge (M := mX12_isSameName) (pc := 26) dX12_isSameName_26 (by decide) kt kf
theorem tX12_isSameName_29 {k : Nat} (r : RQ G mX12_isSameName d 30 [some (.ref k), x1, x2, x3] (.ref k :: S) (h) P) : RQ G mX12_isSameName d 29 [some (.ref k), x1, x2, x3] (S) h P := q_aload_n (M := mX12_isSameName) (pc := 29) (r0 := some k) dX12_isSameName_29 rfl rfl r
theorem tX12_isSameName_30 {i : Nat} {vs : List Value} {v : Value} (ha : At h i (.inr (10, vs))) (hv : vs[1]? = some v) (r : RQ G mX12_isSameName d 33 [x0, x1, x2, x3] (v :: S) (h) P) : RQ G mX12_isSameName d 30 [x0, x1, x2, x3] (.ref i :: S) h P := q_get (M := mX12_isSameName) (pc := 30) (kf := 1) dX12_isSameName_30 (show CL[10]? = some (RX12, TX12, 25) from rfl) inA12 (by decide) rfl w1424 ha hv r
theorem tX12_isSameName_33 {k : Nat} (r : RQ G mX12_isSameName d 34 [some (.ref k), x1, x2, x3] (.ref k :: S) (h) P) : RQ G mX12_isSameName d 33 [some (.ref k), x1, x2, x3] (S) h P := q_aload_n (M := mX12_isSameName) (pc := 33) (r0 := some k) dX12_isSameName_33 rfl rfl r
theorem tX12_isSameName_34 {i : Nat} {vs : List Value} {v : Value} (ha : At h i (.inr (10, vs))) (hv : vs[6]? = some v) (r : RQ G mX12_isSameName d 37 [x0, x1, x2, x3] (v :: S) (h) P) : RQ G mX12_isSameName d 34 [x0, x1, x2, x3] (.ref i :: S) h P := q_get (M := mX12_isSameName) (pc := 34) (kf := 6) dX12_isSameName_34 (show CL[10]? = some (RX12, TX12, 25) from rfl) inA12 (by decide) rfl w1429 ha hv r
theorem tX12_isSameName_37 {v : Int32} (r : RQ G mX12_isSameName d 38 [x0, some (.int v), x2, x3] (.int v :: S) (h) P) : RQ G mX12_isSameName d 37 [x0, some (.int v), x2, x3] (S) h P := q_iload_n (M := mX12_isSameName) (pc := 37) dX12_isSameName_37 rfl rfl r
theorem tX12_isSameName_38 {a n j : Nat} {x : Int32} {f : Nat → Int32} (ha : At h a (.inl (0, n, .inl f))) (hx : x = nI j) (hj : j < n) (hn : n < 2147483648) (r : RQ G mX12_isSameName d 39 [x0, x1, x2, x3] (.int (f j) :: S) (h) P) : RQ G mX12_isSameName d 38 [x0, x1, x2, x3] (.int x :: .ref a :: S) h P := q_iald (M := mX12_isSameName) (pc := 38) dX12_isSameName_38 ha hx hj hn r
theorem tX12_isSameName_39 {v : Int32} (r : RQ G mX12_isSameName d 40 [x0, x1, x2, some (.int v)] (.int v :: S) (h) P) : RQ G mX12_isSameName d 39 [x0, x1, x2, some (.int v)] (S) h P := q_iload_n (M := mX12_isSameName) (pc := 39) dX12_isSameName_39 rfl rfl r
theorem tX12_isSameName_40 {x y : Int32} (r : RQ G mX12_isSameName d 41 [x0, x1, x2, x3] (.int (x + y) :: S) (h) P) : RQ G mX12_isSameName d 40 [x0, x1, x2, x3] (.int y :: .int x :: S) h P := q_iadd (M := mX12_isSameName) (pc := 40) dX12_isSameName_40 r
theorem tX12_isSameName_41 {a n j : Nat} {x : Int32} {f : Nat → Int32} (ha : At h a (.inl (0, n, .inl f))) (hx : x = nI j) (hj : j < n) (hn : n < 2147483648) (r : RQ G mX12_isSameName d 42 [x0, x1, x2, x3] (.int (f j) :: S) (h) P) : RQ G mX12_isSameName d 41 [x0, x1, x2, x3] (.int x :: .ref a :: S) h P := q_iald (M := mX12_isSameName) (pc := 41) dX12_isSameName_41 ha hx hj hn r
theorem tX12_isSameName_42 {k : Nat} (r : RQ G mX12_isSameName d 43 [some (.ref k), x1, x2, x3] (.ref k :: S) (h) P) : RQ G mX12_isSameName d 42 [some (.ref k), x1, x2, x3] (S) h P := q_aload_n (M := mX12_isSameName) (pc := 42) (r0 := some k) dX12_isSameName_42 rfl rfl r
theorem tX12_isSameName_43 {i : Nat} {vs : List Value} {v : Value} (ha : At h i (.inr (10, vs))) (hv : vs[1]? = some v) (r : RQ G mX12_isSameName d 46 [x0, x1, x2, x3] (v :: S) (h) P) : RQ G mX12_isSameName d 43 [x0, x1, x2, x3] (.ref i :: S) h P := q_get (M := mX12_isSameName) (pc := 43) (kf := 1) dX12_isSameName_43 (show CL[10]? = some (RX12, TX12, 25) from rfl) inA12 (by decide) rfl w1424 ha hv r
theorem tX12_isSameName_46 {k : Nat} (r : RQ G mX12_isSameName d 47 [some (.ref k), x1, x2, x3] (.ref k :: S) (h) P) : RQ G mX12_isSameName d 46 [some (.ref k), x1, x2, x3] (S) h P := q_aload_n (M := mX12_isSameName) (pc := 46) (r0 := some k) dX12_isSameName_46 rfl rfl r
theorem tX12_isSameName_47 {i : Nat} {vs : List Value} {v : Value} (ha : At h i (.inr (10, vs))) (hv : vs[6]? = some v) (r : RQ G mX12_isSameName d 50 [x0, x1, x2, x3] (v :: S) (h) P) : RQ G mX12_isSameName d 47 [x0, x1, x2, x3] (.ref i :: S) h P := q_get (M := mX12_isSameName) (pc := 47) (kf := 6) dX12_isSameName_47 (show CL[10]? = some (RX12, TX12, 25) from rfl) inA12 (by decide) rfl w1429 ha hv r
theorem tX12_isSameName_50 {v : Int32} (r : RQ G mX12_isSameName d 51 [x0, x1, some (.int v), x3] (.int v :: S) (h) P) : RQ G mX12_isSameName d 50 [x0, x1, some (.int v), x3] (S) h P := q_iload_n (M := mX12_isSameName) (pc := 50) dX12_isSameName_50 rfl rfl r
theorem tX12_isSameName_51 {a n j : Nat} {x : Int32} {f : Nat → Int32} (ha : At h a (.inl (0, n, .inl f))) (hx : x = nI j) (hj : j < n) (hn : n < 2147483648) (r : RQ G mX12_isSameName d 52 [x0, x1, x2, x3] (.int (f j) :: S) (h) P) : RQ G mX12_isSameName d 51 [x0, x1, x2, x3] (.int x :: .ref a :: S) h P := q_iald (M := mX12_isSameName) (pc := 51) dX12_isSameName_51 ha hx hj hn r
theorem tX12_isSameName_52 {v : Int32} (r : RQ G mX12_isSameName d 53 [x0, x1, x2, some (.int v)] (.int v :: S) (h) P) : RQ G mX12_isSameName d 52 [x0, x1, x2, some (.int v)] (S) h P := q_iload_n (M := mX12_isSameName) (pc := 52) dX12_isSameName_52 rfl rfl r
theorem tX12_isSameName_53 {x y : Int32} (r : RQ G mX12_isSameName d 54 [x0, x1, x2, x3] (.int (x + y) :: S) (h) P) : RQ G mX12_isSameName d 53 [x0, x1, x2, x3] (.int y :: .int x :: S) h P := q_iadd (M := mX12_isSameName) (pc := 53) dX12_isSameName_53 r
theorem tX12_isSameName_54 {a n j : Nat} {x : Int32} {f : Nat → Int32} (ha : At h a (.inl (0, n, .inl f))) (hx : x = nI j) (hj : j < n) (hn : n < 2147483648) (r : RQ G mX12_isSameName d 55 [x0, x1, x2, x3] (.int (f j) :: S) (h) P) : RQ G mX12_isSameName d 54 [x0, x1, x2, x3] (.int x :: .ref a :: S) h P := q_iald (M := mX12_isSameName) (pc := 54) dX12_isSameName_54 ha hx hj hn r
theorem tX12_isSameName_55 {x y : Int32} (kt : x = y → RQ G mX12_isSameName d 60 [x0, x1, x2, x3] S h P) (kf : ¬ x = y → RQ G mX12_isSameName d 58 [x0, x1, x2, x3] S h P) : RQ G mX12_isSameName d 55 [x0, x1, x2, x3] (.int y :: .int x :: S) h P := q_icmp_eq (M := mX12_isSameName) (pc := 55) dX12_isSameName_55 (by decide) kt kf
theorem tX12_isSameName_58 (r : RQ G mX12_isSameName d 59 [x0, x1, x2, x3] (.int (nI 0) :: S) (h) P) : RQ G mX12_isSameName d 58 [x0, x1, x2, x3] (S) h P := q_iconst (M := mX12_isSameName) (pc := 58) dX12_isSameName_58 (by decide) r
theorem tX12_isSameName_59 {x : Int32} (hb : x = nI 0 ∨ x = nI 1) (hP : P (.inl (some (.int x))) h) : RQ G mX12_isSameName d 59 [x0, x1, x2, x3] ([.int x]) h P := q_ireturn (M := mX12_isSameName) (pc := 59) (ty := .boolean) dX12_isSameName_59 rfl (nar_bool hb) hP
theorem tX12_isSameName_60 {v : Int32} (ho : ok1 x2 = true := by rfl) (r : RQ G mX12_isSameName d 63 [x0, x1, x2, some (.int (v + (nI 1)))] (S) (h) P) : RQ G mX12_isSameName d 60 [x0, x1, x2, some (.int v)] (S) h P := q_iinc (M := mX12_isSameName) (pc := 60) dX12_isSameName_60 rfl (congrArg (v + ·) (show Int32.ofInt (1) = (nI 1) by decide)) (Nat.le_of_ble_eq_true rfl) ho r
theorem tX12_isSameName_63 (r : RQ G mX12_isSameName d 19 [x0, x1, x2, x3] S h P) : RQ G mX12_isSameName d 63 [x0, x1, x2, x3] (S) h P := q_goto (M := mX12_isSameName) (pc := 63) dX12_isSameName_63 (by decide) r
theorem tX12_isSameName_66 (r : RQ G mX12_isSameName d 67 [x0, x1, x2, x3] (.int (nI 1) :: S) (h) P) : RQ G mX12_isSameName d 66 [x0, x1, x2, x3] (S) h P := q_iconst (M := mX12_isSameName) (pc := 66) dX12_isSameName_66 (by decide) r
theorem tX12_isSameName_67 {x : Int32} (hb : x = nI 0 ∨ x = nI 1) (hP : P (.inl (some (.int x))) h) : RQ G mX12_isSameName d 67 [x0, x1, x2, x3] ([.int x]) h P := q_ireturn (M := mX12_isSameName) (pc := 67) (ty := .boolean) dX12_isSameName_67 rfl (nar_bool hb) hP
end T
theorem dX12_known_0 : decode cX12_known 0 = .ok (.iconst 0, 1) := by decide +kernel
theorem dX12_known_1 : decode cX12_known 1 = .ok (.istore_n 1, 1) := by decide +kernel
theorem dX12_known_2 : decode cX12_known 2 = .ok (.iload_n 1, 1) := by decide +kernel
theorem dX12_known_3 : decode cX12_known 3 = .ok (.aload_n 0, 1) := by decide +kernel
theorem dX12_known_4 : decode cX12_known 4 = .ok (.getfield 170, 3) := by decide +kernel
theorem dX12_known_7 : decode cX12_known 7 = .ok (.if_icmp .ge 28, 3) := by decide +kernel
theorem dX12_known_10 : decode cX12_known 10 = .ok (.aload_n 0, 1) := by decide +kernel
theorem dX12_known_11 : decode cX12_known 11 = .ok (.aload_n 0, 1) := by decide +kernel
theorem dX12_known_12 : decode cX12_known 12 = .ok (.getfield 29, 3) := by decide +kernel
theorem dX12_known_15 : decode cX12_known 15 = .ok (.iload_n 1, 1) := by decide +kernel
theorem dX12_known_16 : decode cX12_known 16 = .ok (.iaload, 1) := by decide +kernel
theorem dX12_known_17 : decode cX12_known 17 = .ok (.aload_n 0, 1) := by decide +kernel
theorem dX12_known_18 : decode cX12_known 18 = .ok (.getfield 136, 3) := by decide +kernel
theorem dX12_known_21 : decode cX12_known 21 = .ok (.invokevirtual 173, 3) := by decide +kernel
theorem dX12_known_24 : decode cX12_known 24 = .ok (.ifCond .eq 5, 3) := by decide +kernel
theorem dX12_known_27 : decode cX12_known 27 = .ok (.iload_n 1, 1) := by decide +kernel
theorem dX12_known_28 : decode cX12_known 28 = .ok (.ireturn, 1) := by decide +kernel
theorem dX12_known_29 : decode cX12_known 29 = .ok (.iinc 1 1, 3) := by decide +kernel
theorem dX12_known_32 : decode cX12_known 32 = .ok (.goto (-30), 3) := by decide +kernel
theorem dX12_known_35 : decode cX12_known 35 = .ok (.iconst (-1), 1) := by decide +kernel
theorem dX12_known_36 : decode cX12_known 36 = .ok (.ireturn, 1) := by decide +kernel
section T
variable {G : GT} {d : Nat} {S : List Value} {h : AH} {P : OC → AH → Prop} {x0 x1 x2 x3 x4 x5 x6 x7 x8 x9 x10 x11 x12 x13 x14 x15 : Option Value}
theorem tX12_known_0 (r : RQ G mX12_known d 1 [x0, x1] (.int (nI 0) :: S) (h) P) : RQ G mX12_known d 0 [x0, x1] (S) h P := q_iconst (M := mX12_known) (pc := 0) dX12_known_0 (by decide) r
theorem tX12_known_1 {v : Int32} (ho : ok1 x0 = true := by rfl) (r : RQ G mX12_known d 2 [x0, some (.int v)] (S) (h) P) : RQ G mX12_known d 1 [x0, x1] (.int v :: S) h P := q_istore_n (M := mX12_known) (pc := 1) dX12_known_1 rfl (Nat.le_of_ble_eq_true rfl) ho r
theorem tX12_known_2 {v : Int32} (r : RQ G mX12_known d 3 [x0, some (.int v)] (.int v :: S) (h) P) : RQ G mX12_known d 2 [x0, some (.int v)] (S) h P := q_iload_n (M := mX12_known) (pc := 2) dX12_known_2 rfl rfl r
theorem tX12_known_3 {k : Nat} (r : RQ G mX12_known d 4 [some (.ref k), x1] (.ref k :: S) (h) P) : RQ G mX12_known d 3 [some (.ref k), x1] (S) h P := q_aload_n (M := mX12_known) (pc := 3) (r0 := some k) dX12_known_3 rfl rfl r
theorem tX12_known_4 {i : Nat} {vs : List Value} {v : Value} (ha : At h i (.inr (10, vs))) (hv : vs[16]? = some v) (r : RQ G mX12_known d 7 [x0, x1] (v :: S) (h) P) : RQ G mX12_known d 4 [x0, x1] (.ref i :: S) h P := q_get (M := mX12_known) (pc := 4) (kf := 16) dX12_known_4 (show CL[10]? = some (RX12, TX12, 25) from rfl) inA12 (by decide) rfl w1439 ha hv r
theorem tX12_known_7 {x y : Int32} (kt : y ≤ x → RQ G mX12_known d 35 [x0, x1] S h P) (kf : ¬ y ≤ x → RQ G mX12_known d 10 [x0, x1] S h P) : RQ G mX12_known d 7 [x0, x1] (.int y :: .int x :: S) h P := q_icmp_ge (M := mX12_known) (pc := 7) dX12_known_7 (by decide) kt kf
theorem tX12_known_10 {k : Nat} (r : RQ G mX12_known d 11 [some (.ref k), x1] (.ref k :: S) (h) P) : RQ G mX12_known d 10 [some (.ref k), x1] (S) h P := q_aload_n (M := mX12_known) (pc := 10) (r0 := some k) dX12_known_10 rfl rfl r
theorem tX12_known_11 {k : Nat} (r : RQ G mX12_known d 12 [some (.ref k), x1] (.ref k :: S) (h) P) : RQ G mX12_known d 11 [some (.ref k), x1] (S) h P := q_aload_n (M := mX12_known) (pc := 11) (r0 := some k) dX12_known_11 rfl rfl r
theorem tX12_known_12 {i : Nat} {vs : List Value} {v : Value} (ha : At h i (.inr (10, vs))) (hv : vs[13]? = some v) (r : RQ G mX12_known d 15 [x0, x1] (v :: S) (h) P) : RQ G mX12_known d 12 [x0, x1] (.ref i :: S) h P := q_get (M := mX12_known) (pc := 12) (kf := 13) dX12_known_12 (show CL[10]? = some (RX12, TX12, 25) from rfl) inA12 (by decide) rfl w1436 ha hv r
theorem tX12_known_15 {v : Int32} (r : RQ G mX12_known d 16 [x0, some (.int v)] (.int v :: S) (h) P) : RQ G mX12_known d 15 [x0, some (.int v)] (S) h P := q_iload_n (M := mX12_known) (pc := 15) dX12_known_15 rfl rfl r
theorem tX12_known_16 {a n j : Nat} {x : Int32} {f : Nat → Int32} (ha : At h a (.inl (0, n, .inl f))) (hx : x = nI j) (hj : j < n) (hn : n < 2147483648) (r : RQ G mX12_known d 17 [x0, x1] (.int (f j) :: S) (h) P) : RQ G mX12_known d 16 [x0, x1] (.int x :: .ref a :: S) h P := q_iald (M := mX12_known) (pc := 16) dX12_known_16 ha hx hj hn r
theorem tX12_known_17 {k : Nat} (r : RQ G mX12_known d 18 [some (.ref k), x1] (.ref k :: S) (h) P) : RQ G mX12_known d 17 [some (.ref k), x1] (S) h P := q_aload_n (M := mX12_known) (pc := 17) (r0 := some k) dX12_known_17 rfl rfl r
theorem tX12_known_18 {i : Nat} {vs : List Value} {v : Value} (ha : At h i (.inr (10, vs))) (hv : vs[8]? = some v) (r : RQ G mX12_known d 21 [x0, x1] (v :: S) (h) P) : RQ G mX12_known d 18 [x0, x1] (.ref i :: S) h P := q_get (M := mX12_known) (pc := 18) (kf := 8) dX12_known_18 (show CL[10]? = some (RX12, TX12, 25) from rfl) inA12 (by decide) rfl w1431 ha hv r
theorem tX12_known_21 {b d2 : Nat} {vs : List Value} {a0 : Int32} {a1 : Int32} {Q : Int32 → AH → Prop} (hd : d2 + 1 ≤ d) (ha : At h b (.inr (10, vs))) (call : RQ G mX12_isSameName d2 0 [some (.ref b), some (.int a0), some (.int a1), none] [] h (Ri Q)) (k : ∀ x h1, Q x h1 → RQ G mX12_known d 24 [x0, x1] (.int x :: S) h1 P) (hst : (S.map fun v => v.category).sum ≤ 8 := by exact Nat.le_of_ble_eq_true rfl)  : RQ G mX12_known d 21 [x0, x1] (.int a1 :: .int a0 :: .ref b :: S) h P := q_callV (M := mX12_known) (pc := 21) (M2 := mX12_isSameName) (As := [.int a0, .int a1]) (n := 2) dX12_known_21 rfl ⟨by decide, by decide, by decide, rfl⟩ rfl w1583 w1585 w53 w120 w1586 (show CL[10]? = some (RX12, TX12, 25) from rfl) hd (by decide) (Nat.le_of_ble_eq_true rfl) rfl ha hst call (callk_i k)
theorem tX12_known_24 {x : Int32} (kt : x = 0 → RQ G mX12_known d 29 [x0, x1] S h P) (kf : ¬ x = 0 → RQ G mX12_known d 27 [x0, x1] S h P) : RQ G mX12_known d 24 [x0, x1] (.int x :: S) h P := q_if_eq (M := mX12_known) (pc := 24) dX12_known_24 (by decide) kt kf
theorem tX12_known_27 {v : Int32} (r : RQ G mX12_known d 28 [x0, some (.int v)] (.int v :: S) (h) P) : RQ G mX12_known d 27 [x0, some (.int v)] (S) h P := q_iload_n (M := mX12_known) (pc := 27) dX12_known_27 rfl rfl r
theorem tX12_known_28 {x : Int32} (hP : P (.inl (some (.int x))) h) : RQ G mX12_known d 28 [x0, x1] ([.int x]) h P := q_ireturn (M := mX12_known) (pc := 28) (ty := .int) dX12_known_28 rfl rfl hP
theorem tX12_known_29 {v : Int32} (ho : ok1 x0 = true := by rfl) (r : RQ G mX12_known d 32 [x0, some (.int (v + (nI 1)))] (S) (h) P) : RQ G mX12_known d 29 [x0, some (.int v)] (S) h P := q_iinc (M := mX12_known) (pc := 29) dX12_known_29 rfl (congrArg (v + ·) (show Int32.ofInt (1) = (nI 1) by decide)) (Nat.le_of_ble_eq_true rfl) ho r
theorem tX12_known_32 (r : RQ G mX12_known d 2 [x0, x1] S h P) : RQ G mX12_known d 32 [x0, x1] (S) h P := q_goto (M := mX12_known) (pc := 32) dX12_known_32 (by decide) r
theorem tX12_known_35 (r : RQ G mX12_known d 36 [x0, x1] (.int (-1) :: S) (h) P) : RQ G mX12_known d 35 [x0, x1] (S) h P := q_iconst (M := mX12_known) (pc := 35) dX12_known_35 (by decide) r
theorem tX12_known_36 {x : Int32} (hP : P (.inl (some (.int x))) h) : RQ G mX12_known d 36 [x0, x1] ([.int x]) h P := q_ireturn (M := mX12_known) (pc := 36) (ty := .int) dX12_known_36 rfl rfl hP
end T
theorem dX12_name_0 : decode cX12_name 0 = .ok (.aload_n 0, 1) := by decide +kernel
theorem dX12_name_1 : decode cX12_name 1 = .ok (.bipush 30, 2) := by decide +kernel
theorem dX12_name_3 : decode cX12_name 3 = .ok (.invokevirtual 145, 3) := by decide +kernel
theorem dX12_name_6 : decode cX12_name 6 = .ok (.ifCond .eq 10, 3) := by decide +kernel
theorem dX12_name_9 : decode cX12_name 9 = .ok (.aload_n 0, 1) := by decide +kernel
theorem dX12_name_10 : decode cX12_name 10 = .ok (.invokevirtual 177, 3) := by decide +kernel
theorem dX12_name_13 : decode cX12_name 13 = .ok (.goto 4, 3) := by decide +kernel
theorem dX12_name_16 : decode cX12_name 16 = .ok (.iconst (-1), 1) := by decide +kernel
theorem dX12_name_17 : decode cX12_name 17 = .ok (.istore_n 2, 1) := by decide +kernel
theorem dX12_name_18 : decode cX12_name 18 = .ok (.iload_n 2, 1) := by decide +kernel
theorem dX12_name_19 : decode cX12_name 19 = .ok (.iconst (-1), 1) := by decide +kernel
theorem dX12_name_20 : decode cX12_name 20 = .ok (.if_icmp .eq 17, 3) := by decide +kernel
theorem dX12_name_23 : decode cX12_name 23 = .ok (.aload_n 0, 1) := by decide +kernel
theorem dX12_name_24 : decode cX12_name 24 = .ok (.getfield 32, 3) := by decide +kernel
theorem dX12_name_27 : decode cX12_name 27 = .ok (.iload_n 2, 1) := by decide +kernel
theorem dX12_name_28 : decode cX12_name 28 = .ok (.iaload, 1) := by decide +kernel
theorem dX12_name_29 : decode cX12_name 29 = .ok (.iload_n 1, 1) := by decide +kernel
theorem dX12_name_30 : decode cX12_name 30 = .ok (.if_icmp .ne 7, 3) := by decide +kernel
theorem dX12_name_33 : decode cX12_name 33 = .ok (.iconst 1, 1) := by decide +kernel
theorem dX12_name_34 : decode cX12_name 34 = .ok (.goto 4, 3) := by decide +kernel
theorem dX12_name_37 : decode cX12_name 37 = .ok (.iconst 0, 1) := by decide +kernel
theorem dX12_name_38 : decode cX12_name 38 = .ok (.istore_n 3, 1) := by decide +kernel
theorem dX12_name_39 : decode cX12_name 39 = .ok (.aload_n 0, 1) := by decide +kernel
theorem dX12_name_40 : decode cX12_name 40 = .ok (.bipush 30, 2) := by decide +kernel
theorem dX12_name_42 : decode cX12_name 42 = .ok (.invokevirtual 145, 3) := by decide +kernel
theorem dX12_name_45 : decode cX12_name 45 = .ok (.ifCond .eq 12, 3) := by decide +kernel
theorem dX12_name_48 : decode cX12_name 48 = .ok (.iload_n 3, 1) := by decide +kernel
theorem dX12_name_49 : decode cX12_name 49 = .ok (.ifCond .ne 8, 3) := by decide +kernel
theorem dX12_name_52 : decode cX12_name 52 = .ok (.aload_n 0, 1) := by decide +kernel
theorem dX12_name_53 : decode cX12_name 53 = .ok (.iconst 3, 1) := by decide +kernel
theorem dX12_name_54 : decode cX12_name 54 = .ok (.invokevirtual 180, 3) := by decide +kernel
theorem dX12_name_57 : decode cX12_name 57 = .ok (.aload_n 0, 1) := by decide +kernel
theorem dX12_name_58 : decode cX12_name 58 = .ok (.bipush 30, 2) := by decide +kernel
theorem dX12_name_60 : decode cX12_name 60 = .ok (.invokevirtual 154, 3) := by decide +kernel
theorem dX12_name_63 : decode cX12_name 63 = .ok (.iload_n 3, 1) := by decide +kernel
theorem dX12_name_64 : decode cX12_name 64 = .ok (.ifCond .eq 12, 3) := by decide +kernel
theorem dX12_name_67 : decode cX12_name 67 = .ok (.aload_n 0, 1) := by decide +kernel
theorem dX12_name_68 : decode cX12_name 68 = .ok (.getfield 35, 3) := by decide +kernel
theorem dX12_name_71 : decode cX12_name 71 = .ok (.iload_n 2, 1) := by decide +kernel
theorem dX12_name_72 : decode cX12_name 72 = .ok (.iaload, 1) := by decide +kernel
theorem dX12_name_73 : decode cX12_name 73 = .ok (.goto 4, 3) := by decide +kernel
theorem dX12_name_76 : decode cX12_name 76 = .ok (.iconst 0, 1) := by decide +kernel
theorem dX12_name_77 : decode cX12_name 77 = .ok (.ireturn, 1) := by decide +kernel
section T
variable {G : GT} {d : Nat} {S : List Value} {h : AH} {P : OC → AH → Prop} {x0 x1 x2 x3 x4 x5 x6 x7 x8 x9 x10 x11 x12 x13 x14 x15 : Option Value}
theorem tX12_name_0 {k : Nat} (r : RQ G mX12_name d 1 [some (.ref k), x1, x2, x3] (.ref k :: S) (h) P) : RQ G mX12_name d 0 [some (.ref k), x1, x2, x3] (S) h P := q_aload_n (M := mX12_name) (pc := 0) (r0 := some k) dX12_name_0 rfl rfl r
theorem tX12_name_1 (r : RQ G mX12_name d 3 [x0, x1, x2, x3] (.int (nI 30) :: S) (h) P) : RQ G mX12_name d 1 [x0, x1, x2, x3] (S) h P := q_bipush (M := mX12_name) (pc := 1) dX12_name_1 (by decide) r
theorem tX12_name_3 {b d2 : Nat} {vs : List Value} {a0 : Int32} {Q : Int32 → AH → Prop} (hd : d2 + 1 ≤ d) (ha : At h b (.inr (10, vs))) (call : RQ G mX12_is d2 0 [some (.ref b), some (.int a0)] [] h (Ri Q)) (k : ∀ x h1, Q x h1 → RQ G mX12_name d 6 [x0, x1, x2, x3] (.int x :: S) h1 P) (hst : (S.map fun v => v.category).sum ≤ 8 := by exact Nat.le_of_ble_eq_true rfl)  : RQ G mX12_name d 3 [x0, x1, x2, x3] (.int a0 :: .ref b :: S) h P := q_callV (M := mX12_name) (pc := 3) (M2 := mX12_is) (As := [.int a0]) (n := 1) dX12_name_3 rfl ⟨by decide, by decide, by decide, rfl⟩ rfl w1571 w1573 w50 w120 w1574 (show CL[10]? = some (RX12, TX12, 25) from rfl) hd (by decide) (Nat.le_of_ble_eq_true rfl) rfl ha hst call (callk_i k)
theorem tX12_name_6 {x : Int32} (kt : x = 0 → RQ G mX12_name d 16 [x0, x1, x2, x3] S h P) (kf : ¬ x = 0 → RQ G mX12_name d 9 [x0, x1, x2, x3] S h P) : RQ G mX12_name d 6 [x0, x1, x2, x3] (.int x :: S) h P := q_if_eq (M := mX12_name) (pc := 6) dX12_name_6 (by decide) kt kf
theorem tX12_name_9 {k : Nat} (r : RQ G mX12_name d 10 [some (.ref k), x1, x2, x3] (.ref k :: S) (h) P) : RQ G mX12_name d 9 [some (.ref k), x1, x2, x3] (S) h P := q_aload_n (M := mX12_name) (pc := 9) (r0 := some k) dX12_name_9 rfl rfl r
theorem tX12_name_10 {b d2 : Nat} {vs : List Value}  {Q : Int32 → AH → Prop} (hd : d2 + 1 ≤ d) (ha : At h b (.inr (10, vs))) (call : RQ G mX12_known d2 0 [some (.ref b), none] [] h (Ri Q)) (k : ∀ x h1, Q x h1 → RQ G mX12_name d 13 [x0, x1, x2, x3] (.int x :: S) h1 P) (hst : (S.map fun v => v.category).sum ≤ 8 := by exact Nat.le_of_ble_eq_true rfl)  : RQ G mX12_name d 10 [x0, x1, x2, x3] (.ref b :: S) h P := q_callV (M := mX12_name) (pc := 10) (M2 := mX12_known) (As := []) (n := 0) dX12_name_10 rfl ⟨by decide, by decide, by decide, rfl⟩ rfl w1579 w1581 w52 w120 w1582 (show CL[10]? = some (RX12, TX12, 25) from rfl) hd (by decide) (Nat.le_of_ble_eq_true rfl) rfl ha hst call (callk_i k)
theorem tX12_name_13 (r : RQ G mX12_name d 17 [x0, x1, x2, x3] S h P) : RQ G mX12_name d 13 [x0, x1, x2, x3] (S) h P := q_goto (M := mX12_name) (pc := 13) dX12_name_13 (by decide) r
theorem tX12_name_16 (r : RQ G mX12_name d 17 [x0, x1, x2, x3] (.int (-1) :: S) (h) P) : RQ G mX12_name d 16 [x0, x1, x2, x3] (S) h P := q_iconst (M := mX12_name) (pc := 16) dX12_name_16 (by decide) r
theorem tX12_name_17 {v : Int32} (ho : ok1 x1 = true := by rfl) (r : RQ G mX12_name d 18 [x0, x1, some (.int v), x3] (S) (h) P) : RQ G mX12_name d 17 [x0, x1, x2, x3] (.int v :: S) h P := q_istore_n (M := mX12_name) (pc := 17) dX12_name_17 rfl (Nat.le_of_ble_eq_true rfl) ho r
theorem tX12_name_18 {v : Int32} (r : RQ G mX12_name d 19 [x0, x1, some (.int v), x3] (.int v :: S) (h) P) : RQ G mX12_name d 18 [x0, x1, some (.int v), x3] (S) h P := q_iload_n (M := mX12_name) (pc := 18) dX12_name_18 rfl rfl r
theorem tX12_name_19 (r : RQ G mX12_name d 20 [x0, x1, x2, x3] (.int (-1) :: S) (h) P) : RQ G mX12_name d 19 [x0, x1, x2, x3] (S) h P := q_iconst (M := mX12_name) (pc := 19) dX12_name_19 (by decide) r
theorem tX12_name_20 {x y : Int32} (kt : x = y → RQ G mX12_name d 37 [x0, x1, x2, x3] S h P) (kf : ¬ x = y → RQ G mX12_name d 23 [x0, x1, x2, x3] S h P) : RQ G mX12_name d 20 [x0, x1, x2, x3] (.int y :: .int x :: S) h P := q_icmp_eq (M := mX12_name) (pc := 20) dX12_name_20 (by decide) kt kf
theorem tX12_name_23 {k : Nat} (r : RQ G mX12_name d 24 [some (.ref k), x1, x2, x3] (.ref k :: S) (h) P) : RQ G mX12_name d 23 [some (.ref k), x1, x2, x3] (S) h P := q_aload_n (M := mX12_name) (pc := 23) (r0 := some k) dX12_name_23 rfl rfl r
theorem tX12_name_24 {i : Nat} {vs : List Value} {v : Value} (ha : At h i (.inr (10, vs))) (hv : vs[14]? = some v) (r : RQ G mX12_name d 27 [x0, x1, x2, x3] (v :: S) (h) P) : RQ G mX12_name d 24 [x0, x1, x2, x3] (.ref i :: S) h P := q_get (M := mX12_name) (pc := 24) (kf := 14) dX12_name_24 (show CL[10]? = some (RX12, TX12, 25) from rfl) inA12 (by decide) rfl w1437 ha hv r
theorem tX12_name_27 {v : Int32} (r : RQ G mX12_name d 28 [x0, x1, some (.int v), x3] (.int v :: S) (h) P) : RQ G mX12_name d 27 [x0, x1, some (.int v), x3] (S) h P := q_iload_n (M := mX12_name) (pc := 27) dX12_name_27 rfl rfl r
theorem tX12_name_28 {a n j : Nat} {x : Int32} {f : Nat → Int32} (ha : At h a (.inl (0, n, .inl f))) (hx : x = nI j) (hj : j < n) (hn : n < 2147483648) (r : RQ G mX12_name d 29 [x0, x1, x2, x3] (.int (f j) :: S) (h) P) : RQ G mX12_name d 28 [x0, x1, x2, x3] (.int x :: .ref a :: S) h P := q_iald (M := mX12_name) (pc := 28) dX12_name_28 ha hx hj hn r
theorem tX12_name_29 {v : Int32} (r : RQ G mX12_name d 30 [x0, some (.int v), x2, x3] (.int v :: S) (h) P) : RQ G mX12_name d 29 [x0, some (.int v), x2, x3] (S) h P := q_iload_n (M := mX12_name) (pc := 29) dX12_name_29 rfl rfl r
theorem tX12_name_30 {x y : Int32} (kt : ¬ x = y → RQ G mX12_name d 37 [x0, x1, x2, x3] S h P) (kf : x = y → RQ G mX12_name d 33 [x0, x1, x2, x3] S h P) : RQ G mX12_name d 30 [x0, x1, x2, x3] (.int y :: .int x :: S) h P := q_icmp_ne (M := mX12_name) (pc := 30) dX12_name_30 (by decide) kt kf
theorem tX12_name_33 (r : RQ G mX12_name d 34 [x0, x1, x2, x3] (.int (nI 1) :: S) (h) P) : RQ G mX12_name d 33 [x0, x1, x2, x3] (S) h P := q_iconst (M := mX12_name) (pc := 33) dX12_name_33 (by decide) r
theorem tX12_name_34 (r : RQ G mX12_name d 38 [x0, x1, x2, x3] S h P) : RQ G mX12_name d 34 [x0, x1, x2, x3] (S) h P := q_goto (M := mX12_name) (pc := 34) dX12_name_34 (by decide) r
theorem tX12_name_37 (r : RQ G mX12_name d 38 [x0, x1, x2, x3] (.int (nI 0) :: S) (h) P) : RQ G mX12_name d 37 [x0, x1, x2, x3] (S) h P := q_iconst (M := mX12_name) (pc := 37) dX12_name_37 (by decide) r
theorem tX12_name_38 {v : Int32} (ho : ok1 x2 = true := by rfl) (r : RQ G mX12_name d 39 [x0, x1, x2, some (.int v)] (S) (h) P) : RQ G mX12_name d 38 [x0, x1, x2, x3] (.int v :: S) h P := q_istore_n (M := mX12_name) (pc := 38) dX12_name_38 rfl (Nat.le_of_ble_eq_true rfl) ho r
theorem tX12_name_39 {k : Nat} (r : RQ G mX12_name d 40 [some (.ref k), x1, x2, x3] (.ref k :: S) (h) P) : RQ G mX12_name d 39 [some (.ref k), x1, x2, x3] (S) h P := q_aload_n (M := mX12_name) (pc := 39) (r0 := some k) dX12_name_39 rfl rfl r
theorem tX12_name_40 (r : RQ G mX12_name d 42 [x0, x1, x2, x3] (.int (nI 30) :: S) (h) P) : RQ G mX12_name d 40 [x0, x1, x2, x3] (S) h P := q_bipush (M := mX12_name) (pc := 40) dX12_name_40 (by decide) r
theorem tX12_name_42 {b d2 : Nat} {vs : List Value} {a0 : Int32} {Q : Int32 → AH → Prop} (hd : d2 + 1 ≤ d) (ha : At h b (.inr (10, vs))) (call : RQ G mX12_is d2 0 [some (.ref b), some (.int a0)] [] h (Ri Q)) (k : ∀ x h1, Q x h1 → RQ G mX12_name d 45 [x0, x1, x2, x3] (.int x :: S) h1 P) (hst : (S.map fun v => v.category).sum ≤ 8 := by exact Nat.le_of_ble_eq_true rfl)  : RQ G mX12_name d 42 [x0, x1, x2, x3] (.int a0 :: .ref b :: S) h P := q_callV (M := mX12_name) (pc := 42) (M2 := mX12_is) (As := [.int a0]) (n := 1) dX12_name_42 rfl ⟨by decide, by decide, by decide, rfl⟩ rfl w1571 w1573 w50 w120 w1574 (show CL[10]? = some (RX12, TX12, 25) from rfl) hd (by decide) (Nat.le_of_ble_eq_true rfl) rfl ha hst call (callk_i k)
theorem tX12_name_45 {x : Int32} (kt : x = 0 → RQ G mX12_name d 57 [x0, x1, x2, x3] S h P) (kf : ¬ x = 0 → RQ G mX12_name d 48 [x0, x1, x2, x3] S h P) : RQ G mX12_name d 45 [x0, x1, x2, x3] (.int x :: S) h P := q_if_eq (M := mX12_name) (pc := 45) dX12_name_45 (by decide) kt kf
theorem tX12_name_48 {v : Int32} (r : RQ G mX12_name d 49 [x0, x1, x2, some (.int v)] (.int v :: S) (h) P) : RQ G mX12_name d 48 [x0, x1, x2, some (.int v)] (S) h P := q_iload_n (M := mX12_name) (pc := 48) dX12_name_48 rfl rfl r
theorem tX12_name_49 {x : Int32} (kt : ¬ x = 0 → RQ G mX12_name d 57 [x0, x1, x2, x3] S h P) (kf : x = 0 → RQ G mX12_name d 52 [x0, x1, x2, x3] S h P) : RQ G mX12_name d 49 [x0, x1, x2, x3] (.int x :: S) h P := q_if_ne (M := mX12_name) (pc := 49) dX12_name_49 (by decide) kt kf
theorem tX12_name_52 {k : Nat} (r : RQ G mX12_name d 53 [some (.ref k), x1, x2, x3] (.ref k :: S) (h) P) : RQ G mX12_name d 52 [some (.ref k), x1, x2, x3] (S) h P := q_aload_n (M := mX12_name) (pc := 52) (r0 := some k) dX12_name_52 rfl rfl r
theorem tX12_name_53 (r : RQ G mX12_name d 54 [x0, x1, x2, x3] (.int (nI 3) :: S) (h) P) : RQ G mX12_name d 53 [x0, x1, x2, x3] (S) h P := q_iconst (M := mX12_name) (pc := 53) dX12_name_53 (by decide) r
theorem tX12_name_54 {b d2 : Nat} {vs : List Value} {a0 : Int32} {Q : AH → Prop} (hd : d2 + 1 ≤ d) (ha : At h b (.inr (10, vs))) (call : RQ G mX12_mark d2 0 [some (.ref b), some (.int a0)] [] h (Rv Q)) (k : ∀ h1, Q h1 → RQ G mX12_name d 57 [x0, x1, x2, x3] S h1 P) (hst : (S.map fun v => v.category).sum ≤ 8 := by exact Nat.le_of_ble_eq_true rfl)  : RQ G mX12_name d 54 [x0, x1, x2, x3] (.int a0 :: .ref b :: S) h P := q_callV (M := mX12_name) (pc := 54) (M2 := mX12_mark) (As := [.int a0]) (n := 1) dX12_name_54 rfl ⟨by decide, by decide, by decide, rfl⟩ rfl w1587 w1589 w54 w120 w1590 (show CL[10]? = some (RX12, TX12, 25) from rfl) hd (by decide) (Nat.le_of_ble_eq_true rfl) rfl ha hst call (callk_v k)
theorem tX12_name_57 {k : Nat} (r : RQ G mX12_name d 58 [some (.ref k), x1, x2, x3] (.ref k :: S) (h) P) : RQ G mX12_name d 57 [some (.ref k), x1, x2, x3] (S) h P := q_aload_n (M := mX12_name) (pc := 57) (r0 := some k) dX12_name_57 rfl rfl r
theorem tX12_name_58 (r : RQ G mX12_name d 60 [x0, x1, x2, x3] (.int (nI 30) :: S) (h) P) : RQ G mX12_name d 58 [x0, x1, x2, x3] (S) h P := q_bipush (M := mX12_name) (pc := 58) dX12_name_58 (by decide) r
theorem tX12_name_60 {b d2 : Nat} {vs : List Value} {a0 : Int32} {Q : AH → Prop} (hd : d2 + 1 ≤ d) (ha : At h b (.inr (10, vs))) (call : RQ G mX12_take d2 0 [some (.ref b), some (.int a0)] [] h (Rv Q)) (k : ∀ h1, Q h1 → RQ G mX12_name d 63 [x0, x1, x2, x3] S h1 P) (hst : (S.map fun v => v.category).sum ≤ 8 := by exact Nat.le_of_ble_eq_true rfl)  : RQ G mX12_name d 60 [x0, x1, x2, x3] (.int a0 :: .ref b :: S) h P := q_callV (M := mX12_name) (pc := 60) (M2 := mX12_take) (As := [.int a0]) (n := 1) dX12_name_60 rfl ⟨by decide, by decide, by decide, rfl⟩ rfl w1591 w1593 w55 w120 w1594 (show CL[10]? = some (RX12, TX12, 25) from rfl) hd (by decide) (Nat.le_of_ble_eq_true rfl) rfl ha hst call (callk_v k)
theorem tX12_name_63 {v : Int32} (r : RQ G mX12_name d 64 [x0, x1, x2, some (.int v)] (.int v :: S) (h) P) : RQ G mX12_name d 63 [x0, x1, x2, some (.int v)] (S) h P := q_iload_n (M := mX12_name) (pc := 63) dX12_name_63 rfl rfl r
theorem tX12_name_64 {x : Int32} (kt : x = 0 → RQ G mX12_name d 76 [x0, x1, x2, x3] S h P) (kf : ¬ x = 0 → RQ G mX12_name d 67 [x0, x1, x2, x3] S h P) : RQ G mX12_name d 64 [x0, x1, x2, x3] (.int x :: S) h P := q_if_eq (M := mX12_name) (pc := 64) dX12_name_64 (by decide) kt kf
theorem tX12_name_67 {k : Nat} (r : RQ G mX12_name d 68 [some (.ref k), x1, x2, x3] (.ref k :: S) (h) P) : RQ G mX12_name d 67 [some (.ref k), x1, x2, x3] (S) h P := q_aload_n (M := mX12_name) (pc := 67) (r0 := some k) dX12_name_67 rfl rfl r
theorem tX12_name_68 {i : Nat} {vs : List Value} {v : Value} (ha : At h i (.inr (10, vs))) (hv : vs[15]? = some v) (r : RQ G mX12_name d 71 [x0, x1, x2, x3] (v :: S) (h) P) : RQ G mX12_name d 68 [x0, x1, x2, x3] (.ref i :: S) h P := q_get (M := mX12_name) (pc := 68) (kf := 15) dX12_name_68 (show CL[10]? = some (RX12, TX12, 25) from rfl) inA12 (by decide) rfl w1438 ha hv r
theorem tX12_name_71 {v : Int32} (r : RQ G mX12_name d 72 [x0, x1, some (.int v), x3] (.int v :: S) (h) P) : RQ G mX12_name d 71 [x0, x1, some (.int v), x3] (S) h P := q_iload_n (M := mX12_name) (pc := 71) dX12_name_71 rfl rfl r
theorem tX12_name_72 {a n j : Nat} {x : Int32} {f : Nat → Int32} (ha : At h a (.inl (0, n, .inl f))) (hx : x = nI j) (hj : j < n) (hn : n < 2147483648) (r : RQ G mX12_name d 73 [x0, x1, x2, x3] (.int (f j) :: S) (h) P) : RQ G mX12_name d 72 [x0, x1, x2, x3] (.int x :: .ref a :: S) h P := q_iald (M := mX12_name) (pc := 72) dX12_name_72 ha hx hj hn r
theorem tX12_name_73 (r : RQ G mX12_name d 77 [x0, x1, x2, x3] S h P) : RQ G mX12_name d 73 [x0, x1, x2, x3] (S) h P := q_goto (M := mX12_name) (pc := 73) dX12_name_73 (by decide) r
theorem tX12_name_76 (r : RQ G mX12_name d 77 [x0, x1, x2, x3] (.int (nI 0) :: S) (h) P) : RQ G mX12_name d 76 [x0, x1, x2, x3] (S) h P := q_iconst (M := mX12_name) (pc := 76) dX12_name_76 (by decide) r
theorem tX12_name_77 {x : Int32} (hP : P (.inl (some (.int x))) h) : RQ G mX12_name d 77 [x0, x1, x2, x3] ([.int x]) h P := q_ireturn (M := mX12_name) (pc := 77) (ty := .int) dX12_name_77 rfl rfl hP
end T
