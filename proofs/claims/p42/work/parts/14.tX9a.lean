theorem dX9_init_0 : decode cX9_init 0 = .ok (.aload_n 0, 1) := by decide +kernel
theorem dX9_init_1 : decode cX9_init 1 = .ok (.invokespecial 3, 3) := by decide +kernel
theorem dX9_init_4 : decode cX9_init 4 = .ok (.aload_n 0, 1) := by decide +kernel
theorem dX9_init_5 : decode cX9_init 5 = .ok (.sipush 401, 3) := by decide +kernel
theorem dX9_init_8 : decode cX9_init 8 = .ok (.anewarray 9, 3) := by decide +kernel
theorem dX9_init_11 : decode cX9_init 11 = .ok (.putfield 11, 3) := by decide +kernel
theorem dX9_init_14 : decode cX9_init 14 = .ok (.aload_n 0, 1) := by decide +kernel
theorem dX9_init_15 : decode cX9_init 15 = .ok (.sipush 401, 3) := by decide +kernel
theorem dX9_init_18 : decode cX9_init 18 = .ok (.newarray .int, 2) := by decide +kernel
theorem dX9_init_20 : decode cX9_init 20 = .ok (.putfield 17, 3) := by decide +kernel
theorem dX9_init_23 : decode cX9_init 23 = .ok (.aload_n 0, 1) := by decide +kernel
theorem dX9_init_24 : decode cX9_init 24 = .ok (.sipush 401, 3) := by decide +kernel
theorem dX9_init_27 : decode cX9_init 27 = .ok (.newarray .long, 2) := by decide +kernel
theorem dX9_init_29 : decode cX9_init 29 = .ok (.putfield 21, 3) := by decide +kernel
theorem dX9_init_32 : decode cX9_init 32 = .ok (.return_, 1) := by decide +kernel
section T
variable {G : GT} {d : Nat} {S : List Value} {h : AH} {P : OC → AH → Prop} {x0 x1 x2 x3 x4 x5 x6 x7 x8 x9 x10 x11 x12 x13 x14 x15 : Option Value}
theorem tX9_init_0 {k : Nat} (r : RQ G mX9_init d 1 [some (.ref k)] (.ref k :: S) (h) P) : RQ G mX9_init d 0 [some (.ref k)] (S) h P := q_aload_n (M := mX9_init) (pc := 0) (r0 := some k) dX9_init_0 rfl rfl r
theorem tX9_init_1 {b : Nat} (hd : 1 ≤ d) (hst : (S.map fun v => v.category).sum ≤ 8 := by exact Nat.le_of_ble_eq_true rfl) (r : RQ G mX9_init d 4 [x0] (S) (h) P) : RQ G mX9_init d 1 [x0] (.ref b :: S) h P := q_objInit (M := mX9_init) (pc := 1) dX9_init_1 w112 w83 w84 hd hst r
theorem tX9_init_4 {k : Nat} (r : RQ G mX9_init d 5 [some (.ref k)] (.ref k :: S) (h) P) : RQ G mX9_init d 4 [some (.ref k)] (S) h P := q_aload_n (M := mX9_init) (pc := 4) (r0 := some k) dX9_init_4 rfl rfl r
theorem tX9_init_5 (r : RQ G mX9_init d 8 [x0] (.int (nI 401) :: S) (h) P) : RQ G mX9_init d 5 [x0] (S) h P := q_sipush (M := mX9_init) (pc := 5) dX9_init_5 (by decide) r
theorem tX9_init_8 {n : Nat} {x : Int32} (hx : x = nI n) (hn : n < 60000000) (r : RQ G mX9_init d 11 [x0] (.ref h.1 :: S) (hnew h n (.inl (4, n, .inr (.inr (.inr (.inr (fun _ => none))))))) P) : RQ G mX9_init d 8 [x0] (.int x :: S) h P := q_anew4 (M := mX9_init) (pc := 8) dX9_init_8 w113 hx hn r
theorem tX9_init_11 {i : Nat} {vs : List Value} {v : Nat} (ha : At h i (.inr (7, vs))) (hlen : vs.length = 4) (r : RQ G mX9_init d 14 [x0] (S) (hset h i (.inr (7, vs.set 0 (.ref v)))) P) : RQ G mX9_init d 11 [x0] (.ref v :: .ref i :: S) h P := q_putF (M := mX9_init) (pc := 11) (kf := 0) (host := "") dX9_init_11 (show CL[7]? = some (RX9, TX9, 4) from rfl) inA9 tyX9_ok nmX9 (by decide) rfl w115 rfl rfl rfl (tyX9_ok 0 (by decide)) (nfit_arr _ v) (by rw [hlen]; decide) ha r
theorem tX9_init_14 {k : Nat} (r : RQ G mX9_init d 15 [some (.ref k)] (.ref k :: S) (h) P) : RQ G mX9_init d 14 [some (.ref k)] (S) h P := q_aload_n (M := mX9_init) (pc := 14) (r0 := some k) dX9_init_14 rfl rfl r
theorem tX9_init_15 (r : RQ G mX9_init d 18 [x0] (.int (nI 401) :: S) (h) P) : RQ G mX9_init d 15 [x0] (S) h P := q_sipush (M := mX9_init) (pc := 15) dX9_init_15 (by decide) r
theorem tX9_init_18 {n : Nat} {x : Int32} (hx : x = nI n) (hn : n < 60000000) (r : RQ G mX9_init d 20 [x0] (.ref h.1 :: S) (hnew h n (.inl (0, n, .inl (fun _ => 0)))) P) : RQ G mX9_init d 18 [x0] (.int x :: S) h P := q_newaI (M := mX9_init) (pc := 18) dX9_init_18 w128 hx hn r
theorem tX9_init_20 {i : Nat} {vs : List Value} {v : Nat} (ha : At h i (.inr (7, vs))) (hlen : vs.length = 4) (r : RQ G mX9_init d 23 [x0] (S) (hset h i (.inr (7, vs.set 1 (.ref v)))) P) : RQ G mX9_init d 20 [x0] (.ref v :: .ref i :: S) h P := q_putF (M := mX9_init) (pc := 20) (kf := 1) (host := "") dX9_init_20 (show CL[7]? = some (RX9, TX9, 4) from rfl) inA9 tyX9_ok nmX9 (by decide) rfl w116 rfl rfl rfl (tyX9_ok 1 (by decide)) (nfit_arr _ v) (by rw [hlen]; decide) ha r
theorem tX9_init_23 {k : Nat} (r : RQ G mX9_init d 24 [some (.ref k)] (.ref k :: S) (h) P) : RQ G mX9_init d 23 [some (.ref k)] (S) h P := q_aload_n (M := mX9_init) (pc := 23) (r0 := some k) dX9_init_23 rfl rfl r
theorem tX9_init_24 (r : RQ G mX9_init d 27 [x0] (.int (nI 401) :: S) (h) P) : RQ G mX9_init d 24 [x0] (S) h P := q_sipush (M := mX9_init) (pc := 24) dX9_init_24 (by decide) r
theorem tX9_init_27 {n : Nat} {x : Int32} (hx : x = nI n) (hn : n < 60000000) (r : RQ G mX9_init d 29 [x0] (.ref h.1 :: S) (hnew h n (.inl (2, n, .inr (.inl (fun _ => 0))))) P) : RQ G mX9_init d 27 [x0] (.int x :: S) h P := q_newaJ (M := mX9_init) (pc := 27) dX9_init_27 w129 hx hn r
theorem tX9_init_29 {i : Nat} {vs : List Value} {v : Nat} (ha : At h i (.inr (7, vs))) (hlen : vs.length = 4) (r : RQ G mX9_init d 32 [x0] (S) (hset h i (.inr (7, vs.set 2 (.ref v)))) P) : RQ G mX9_init d 29 [x0] (.ref v :: .ref i :: S) h P := q_putF (M := mX9_init) (pc := 29) (kf := 2) (host := "") dX9_init_29 (show CL[7]? = some (RX9, TX9, 4) from rfl) inA9 tyX9_ok nmX9 (by decide) rfl w117 rfl rfl rfl (tyX9_ok 2 (by decide)) (nfit_arr _ v) (by rw [hlen]; decide) ha r
theorem tX9_init_32 (hP : P (.inl none) h) : RQ G mX9_init d 32 [x0] ([]) h P := q_return (M := mX9_init) (pc := 32) dX9_init_32 rfl hP
end T
theorem dX9_readFrom_0 : decode cX9_readFrom 0 = .ok (.iconst 1, 1) := by decide +kernel
theorem dX9_readFrom_1 : decode cX9_readFrom 1 = .ok (.istore_n 2, 1) := by decide +kernel
theorem dX9_readFrom_2 : decode cX9_readFrom 2 = .ok (.iconst 0, 1) := by decide +kernel
theorem dX9_readFrom_3 : decode cX9_readFrom 3 = .ok (.istore_n 3, 1) := by decide +kernel
theorem dX9_readFrom_4 : decode cX9_readFrom 4 = .ok (.aload_n 0, 1) := by decide +kernel
theorem dX9_readFrom_5 : decode cX9_readFrom 5 = .ok (.iconst 0, 1) := by decide +kernel
theorem dX9_readFrom_6 : decode cX9_readFrom 6 = .ok (.putfield 25, 3) := by decide +kernel
theorem dX9_readFrom_9 : decode cX9_readFrom 9 = .ok (.iload_n 2, 1) := by decide +kernel
theorem dX9_readFrom_10 : decode cX9_readFrom 10 = .ok (.ifCond .eq 139, 3) := by decide +kernel
theorem dX9_readFrom_13 : decode cX9_readFrom 13 = .ok (.aload_n 0, 1) := by decide +kernel
theorem dX9_readFrom_14 : decode cX9_readFrom 14 = .ok (.getfield 25, 3) := by decide +kernel
theorem dX9_readFrom_17 : decode cX9_readFrom 17 = .ok (.sipush 400, 3) := by decide +kernel
theorem dX9_readFrom_20 : decode cX9_readFrom 20 = .ok (.if_icmp .gt 129, 3) := by decide +kernel
theorem dX9_readFrom_23 : decode cX9_readFrom 23 = .ok (.aload_n 0, 1) := by decide +kernel
theorem dX9_readFrom_24 : decode cX9_readFrom 24 = .ok (.aload_n 1, 1) := by decide +kernel
theorem dX9_readFrom_25 : decode cX9_readFrom 25 = .ok (.iload_n 3, 1) := by decide +kernel
theorem dX9_readFrom_26 : decode cX9_readFrom 26 = .ok (.invokevirtual 29, 3) := by decide +kernel
theorem dX9_readFrom_29 : decode cX9_readFrom 29 = .ok (.istore_n 3, 1) := by decide +kernel
theorem dX9_readFrom_30 : decode cX9_readFrom 30 = .ok (.aload_n 0, 1) := by decide +kernel
theorem dX9_readFrom_31 : decode cX9_readFrom 31 = .ok (.aload_n 1, 1) := by decide +kernel
theorem dX9_readFrom_32 : decode cX9_readFrom 32 = .ok (.iload_n 3, 1) := by decide +kernel
theorem dX9_readFrom_33 : decode cX9_readFrom 33 = .ok (.invokevirtual 33, 3) := by decide +kernel
theorem dX9_readFrom_36 : decode cX9_readFrom 36 = .ok (.istore 4, 2) := by decide +kernel
theorem dX9_readFrom_38 : decode cX9_readFrom 38 = .ok (.aload_n 0, 1) := by decide +kernel
theorem dX9_readFrom_39 : decode cX9_readFrom 39 = .ok (.aload_n 1, 1) := by decide +kernel
theorem dX9_readFrom_40 : decode cX9_readFrom 40 = .ok (.iload_n 3, 1) := by decide +kernel
theorem dX9_readFrom_41 : decode cX9_readFrom 41 = .ok (.iload 4, 2) := by decide +kernel
theorem dX9_readFrom_43 : decode cX9_readFrom 43 = .ok (.invokevirtual 36, 3) := by decide +kernel
theorem dX9_readFrom_46 : decode cX9_readFrom 46 = .ok (.astore 5, 2) := by decide +kernel
theorem dX9_readFrom_48 : decode cX9_readFrom 48 = .ok (.aload_n 0, 1) := by decide +kernel
theorem dX9_readFrom_49 : decode cX9_readFrom 49 = .ok (.getfield 25, 3) := by decide +kernel
theorem dX9_readFrom_52 : decode cX9_readFrom 52 = .ok (.sipush 400, 3) := by decide +kernel
theorem dX9_readFrom_55 : decode cX9_readFrom 55 = .ok (.if_icmp .ne 16, 3) := by decide +kernel
theorem dX9_readFrom_58 : decode cX9_readFrom 58 = .ok (.aload 5, 2) := by decide +kernel
theorem dX9_readFrom_60 : decode cX9_readFrom 60 = .ok (.getstatic 40, 3) := by decide +kernel
theorem dX9_readFrom_63 : decode cX9_readFrom 63 = .ok (.if_acmp .eq 8, 3) := by decide +kernel
theorem dX9_readFrom_66 : decode cX9_readFrom 66 = .ok (.getstatic 44, 3) := by decide +kernel
theorem dX9_readFrom_69 : decode cX9_readFrom 69 = .ok (.astore 5, 2) := by decide +kernel
theorem dX9_readFrom_71 : decode cX9_readFrom 71 = .ok (.aload_n 0, 1) := by decide +kernel
theorem dX9_readFrom_72 : decode cX9_readFrom 72 = .ok (.getfield 11, 3) := by decide +kernel
theorem dX9_readFrom_75 : decode cX9_readFrom 75 = .ok (.aload_n 0, 1) := by decide +kernel
theorem dX9_readFrom_76 : decode cX9_readFrom 76 = .ok (.getfield 25, 3) := by decide +kernel
theorem dX9_readFrom_79 : decode cX9_readFrom 79 = .ok (.aload 5, 2) := by decide +kernel
theorem dX9_readFrom_81 : decode cX9_readFrom 81 = .ok (.aastore, 1) := by decide +kernel
theorem dX9_readFrom_82 : decode cX9_readFrom 82 = .ok (.aload_n 0, 1) := by decide +kernel
theorem dX9_readFrom_83 : decode cX9_readFrom 83 = .ok (.getfield 17, 3) := by decide +kernel
theorem dX9_readFrom_86 : decode cX9_readFrom 86 = .ok (.aload_n 0, 1) := by decide +kernel
theorem dX9_readFrom_87 : decode cX9_readFrom 87 = .ok (.getfield 25, 3) := by decide +kernel
theorem dX9_readFrom_90 : decode cX9_readFrom 90 = .ok (.iload_n 3, 1) := by decide +kernel
theorem dX9_readFrom_91 : decode cX9_readFrom 91 = .ok (.iastore, 1) := by decide +kernel
theorem dX9_readFrom_92 : decode cX9_readFrom 92 = .ok (.aload_n 0, 1) := by decide +kernel
theorem dX9_readFrom_93 : decode cX9_readFrom 93 = .ok (.getfield 21, 3) := by decide +kernel
theorem dX9_readFrom_96 : decode cX9_readFrom 96 = .ok (.aload_n 0, 1) := by decide +kernel
theorem dX9_readFrom_97 : decode cX9_readFrom 97 = .ok (.getfield 25, 3) := by decide +kernel
theorem dX9_readFrom_100 : decode cX9_readFrom 100 = .ok (.aload_n 0, 1) := by decide +kernel
theorem dX9_readFrom_101 : decode cX9_readFrom 101 = .ok (.aload_n 1, 1) := by decide +kernel
theorem dX9_readFrom_102 : decode cX9_readFrom 102 = .ok (.aload 5, 2) := by decide +kernel
theorem dX9_readFrom_104 : decode cX9_readFrom 104 = .ok (.iload_n 3, 1) := by decide +kernel
theorem dX9_readFrom_105 : decode cX9_readFrom 105 = .ok (.iload 4, 2) := by decide +kernel
theorem dX9_readFrom_107 : decode cX9_readFrom 107 = .ok (.invokevirtual 47, 3) := by decide +kernel
theorem dX9_readFrom_110 : decode cX9_readFrom 110 = .ok (.lastore, 1) := by decide +kernel
theorem dX9_readFrom_111 : decode cX9_readFrom 111 = .ok (.aload 5, 2) := by decide +kernel
theorem dX9_readFrom_113 : decode cX9_readFrom 113 = .ok (.getstatic 40, 3) := by decide +kernel
theorem dX9_readFrom_116 : decode cX9_readFrom 116 = .ok (.if_acmp .eq 15, 3) := by decide +kernel
theorem dX9_readFrom_119 : decode cX9_readFrom 119 = .ok (.aload 5, 2) := by decide +kernel
theorem dX9_readFrom_121 : decode cX9_readFrom 121 = .ok (.getstatic 44, 3) := by decide +kernel
theorem dX9_readFrom_124 : decode cX9_readFrom 124 = .ok (.if_acmp .eq 7, 3) := by decide +kernel
theorem dX9_readFrom_127 : decode cX9_readFrom 127 = .ok (.iconst 1, 1) := by decide +kernel
theorem dX9_readFrom_128 : decode cX9_readFrom 128 = .ok (.goto 4, 3) := by decide +kernel
theorem dX9_readFrom_131 : decode cX9_readFrom 131 = .ok (.iconst 0, 1) := by decide +kernel
theorem dX9_readFrom_132 : decode cX9_readFrom 132 = .ok (.istore_n 2, 1) := by decide +kernel
theorem dX9_readFrom_133 : decode cX9_readFrom 133 = .ok (.iload 4, 2) := by decide +kernel
theorem dX9_readFrom_135 : decode cX9_readFrom 135 = .ok (.istore_n 3, 1) := by decide +kernel
theorem dX9_readFrom_136 : decode cX9_readFrom 136 = .ok (.aload_n 0, 1) := by decide +kernel
theorem dX9_readFrom_137 : decode cX9_readFrom 137 = .ok (.dup, 1) := by decide +kernel
theorem dX9_readFrom_138 : decode cX9_readFrom 138 = .ok (.getfield 25, 3) := by decide +kernel
theorem dX9_readFrom_141 : decode cX9_readFrom 141 = .ok (.iconst 1, 1) := by decide +kernel
theorem dX9_readFrom_142 : decode cX9_readFrom 142 = .ok (.iadd, 1) := by decide +kernel
theorem dX9_readFrom_143 : decode cX9_readFrom 143 = .ok (.putfield 25, 3) := by decide +kernel
theorem dX9_readFrom_146 : decode cX9_readFrom 146 = .ok (.goto (-137), 3) := by decide +kernel
theorem dX9_readFrom_149 : decode cX9_readFrom 149 = .ok (.return_, 1) := by decide +kernel
section T
variable {G : GT} {d : Nat} {S : List Value} {h : AH} {P : OC → AH → Prop} {x0 x1 x2 x3 x4 x5 x6 x7 x8 x9 x10 x11 x12 x13 x14 x15 : Option Value}
theorem tX9_readFrom_0 (r : RQ G mX9_readFrom d 1 [x0, x1, x2, x3, x4, x5] (.int (nI 1) :: S) (h) P) : RQ G mX9_readFrom d 0 [x0, x1, x2, x3, x4, x5] (S) h P := q_iconst (M := mX9_readFrom) (pc := 0) dX9_readFrom_0 (by decide) r
theorem tX9_readFrom_1 {v : Int32} (ho : ok1 x1 = true := by rfl) (r : RQ G mX9_readFrom d 2 [x0, x1, some (.int v), x3, x4, x5] (S) (h) P) : RQ G mX9_readFrom d 1 [x0, x1, x2, x3, x4, x5] (.int v :: S) h P := q_istore_n (M := mX9_readFrom) (pc := 1) dX9_readFrom_1 rfl (Nat.le_of_ble_eq_true rfl) ho r
theorem tX9_readFrom_2 (r : RQ G mX9_readFrom d 3 [x0, x1, x2, x3, x4, x5] (.int (nI 0) :: S) (h) P) : RQ G mX9_readFrom d 2 [x0, x1, x2, x3, x4, x5] (S) h P := q_iconst (M := mX9_readFrom) (pc := 2) dX9_readFrom_2 (by decide) r
theorem tX9_readFrom_3 {v : Int32} (ho : ok1 x2 = true := by rfl) (r : RQ G mX9_readFrom d 4 [x0, x1, x2, some (.int v), x4, x5] (S) (h) P) : RQ G mX9_readFrom d 3 [x0, x1, x2, x3, x4, x5] (.int v :: S) h P := q_istore_n (M := mX9_readFrom) (pc := 3) dX9_readFrom_3 rfl (Nat.le_of_ble_eq_true rfl) ho r
theorem tX9_readFrom_4 {k : Nat} (r : RQ G mX9_readFrom d 5 [some (.ref k), x1, x2, x3, x4, x5] (.ref k :: S) (h) P) : RQ G mX9_readFrom d 4 [some (.ref k), x1, x2, x3, x4, x5] (S) h P := q_aload_n (M := mX9_readFrom) (pc := 4) (r0 := some k) dX9_readFrom_4 rfl rfl r
theorem tX9_readFrom_5 (r : RQ G mX9_readFrom d 6 [x0, x1, x2, x3, x4, x5] (.int (nI 0) :: S) (h) P) : RQ G mX9_readFrom d 5 [x0, x1, x2, x3, x4, x5] (S) h P := q_iconst (M := mX9_readFrom) (pc := 5) dX9_readFrom_5 (by decide) r
theorem tX9_readFrom_6 {i : Nat} {vs : List Value} {v : Int32} (ha : At h i (.inr (7, vs))) (hlen : vs.length = 4) (r : RQ G mX9_readFrom d 9 [x0, x1, x2, x3, x4, x5] (S) (hset h i (.inr (7, vs.set 3 (.int v)))) P) : RQ G mX9_readFrom d 6 [x0, x1, x2, x3, x4, x5] (.int v :: .ref i :: S) h P := q_put (M := mX9_readFrom) (pc := 6) (kf := 3) (host := "") dX9_readFrom_6 (show CL[7]? = some (RX9, TX9, 4) from rfl) inA9 tyX9_ok nmX9 (by decide) rfl w118 rfl (tyX9_ok 3 (by decide)) (nfit_int v) (by rw [hlen]; decide) ha r
theorem tX9_readFrom_9 {v : Int32} (r : RQ G mX9_readFrom d 10 [x0, x1, some (.int v), x3, x4, x5] (.int v :: S) (h) P) : RQ G mX9_readFrom d 9 [x0, x1, some (.int v), x3, x4, x5] (S) h P := q_iload_n (M := mX9_readFrom) (pc := 9) dX9_readFrom_9 rfl rfl r
theorem tX9_readFrom_10 {x : Int32} (kt : x = 0 → RQ G mX9_readFrom d 149 [x0, x1, x2, x3, x4, x5] S h P) (kf : ¬ x = 0 → RQ G mX9_readFrom d 13 [x0, x1, x2, x3, x4, x5] S h P) : RQ G mX9_readFrom d 10 [x0, x1, x2, x3, x4, x5] (.int x :: S) h P := q_if_eq (M := mX9_readFrom) (pc := 10) dX9_readFrom_10 (by decide) kt kf
theorem tX9_readFrom_13 {k : Nat} (r : RQ G mX9_readFrom d 14 [some (.ref k), x1, x2, x3, x4, x5] (.ref k :: S) (h) P) : RQ G mX9_readFrom d 13 [some (.ref k), x1, x2, x3, x4, x5] (S) h P := q_aload_n (M := mX9_readFrom) (pc := 13) (r0 := some k) dX9_readFrom_13 rfl rfl r
theorem tX9_readFrom_14 {i : Nat} {vs : List Value} {v : Value} (ha : At h i (.inr (7, vs))) (hv : vs[3]? = some v) (r : RQ G mX9_readFrom d 17 [x0, x1, x2, x3, x4, x5] (v :: S) (h) P) : RQ G mX9_readFrom d 14 [x0, x1, x2, x3, x4, x5] (.ref i :: S) h P := q_get (M := mX9_readFrom) (pc := 14) (kf := 3) dX9_readFrom_14 (show CL[7]? = some (RX9, TX9, 4) from rfl) inA9 (by decide) rfl w118 ha hv r
theorem tX9_readFrom_17 (r : RQ G mX9_readFrom d 20 [x0, x1, x2, x3, x4, x5] (.int (nI 400) :: S) (h) P) : RQ G mX9_readFrom d 17 [x0, x1, x2, x3, x4, x5] (S) h P := q_sipush (M := mX9_readFrom) (pc := 17) dX9_readFrom_17 (by decide) r
theorem tX9_readFrom_20 {x y : Int32} (kt : y < x → RQ G mX9_readFrom d 149 [x0, x1, x2, x3, x4, x5] S h P) (kf : ¬ y < x → RQ G mX9_readFrom d 23 [x0, x1, x2, x3, x4, x5] S h P) : RQ G mX9_readFrom d 20 [x0, x1, x2, x3, x4, x5] (.int y :: .int x :: S) h P := q_icmp_gt (M := mX9_readFrom) (pc := 20) dX9_readFrom_20 (by decide) kt kf
theorem tX9_readFrom_23 {k : Nat} (r : RQ G mX9_readFrom d 24 [some (.ref k), x1, x2, x3, x4, x5] (.ref k :: S) (h) P) : RQ G mX9_readFrom d 23 [some (.ref k), x1, x2, x3, x4, x5] (S) h P := q_aload_n (M := mX9_readFrom) (pc := 23) (r0 := some k) dX9_readFrom_23 rfl rfl r
theorem tX9_readFrom_24 {k : Nat} (r : RQ G mX9_readFrom d 25 [x0, some (.ref k), x2, x3, x4, x5] (.ref k :: S) (h) P) : RQ G mX9_readFrom d 24 [x0, some (.ref k), x2, x3, x4, x5] (S) h P := q_aload_n (M := mX9_readFrom) (pc := 24) (r0 := some k) dX9_readFrom_24 rfl rfl r
theorem tX9_readFrom_25 {v : Int32} (r : RQ G mX9_readFrom d 26 [x0, x1, x2, some (.int v), x4, x5] (.int v :: S) (h) P) : RQ G mX9_readFrom d 25 [x0, x1, x2, some (.int v), x4, x5] (S) h P := q_iload_n (M := mX9_readFrom) (pc := 25) dX9_readFrom_25 rfl rfl r
theorem tX9_readFrom_26 {b d2 : Nat} {vs : List Value} {a0 : Nat} {a1 : Int32} {Q : Int32 → AH → Prop} (hd : d2 + 1 ≤ d) (ha : At h b (.inr (7, vs))) (call : RQ G mX9_behindBlanks d2 0 [some (.ref b), some (.ref a0), some (.int a1), none] [] h (Ri Q)) (k : ∀ x h1, Q x h1 → RQ G mX9_readFrom d 29 [x0, x1, x2, x3, x4, x5] (.int x :: S) h1 P) (hst : (S.map fun v => v.category).sum ≤ 8 := by exact Nat.le_of_ble_eq_true rfl)  : RQ G mX9_readFrom d 26 [x0, x1, x2, x3, x4, x5] (.int a1 :: .ref a0 :: .ref b :: S) h P := q_callV (M := mX9_readFrom) (pc := 26) (M2 := mX9_behindBlanks) (As := [.ref a0, .int a1]) (n := 2) dX9_readFrom_26 rfl ⟨by decide, by decide, by decide, rfl⟩ rfl w949 w951 w17 w44 w952 (show CL[7]? = some (RX9, TX9, 4) from rfl) hd (by decide) (Nat.le_of_ble_eq_true rfl) rfl ha hst call (callk_i k)
theorem tX9_readFrom_29 {v : Int32} (ho : ok1 x2 = true := by rfl) (r : RQ G mX9_readFrom d 30 [x0, x1, x2, some (.int v), x4, x5] (S) (h) P) : RQ G mX9_readFrom d 29 [x0, x1, x2, x3, x4, x5] (.int v :: S) h P := q_istore_n (M := mX9_readFrom) (pc := 29) dX9_readFrom_29 rfl (Nat.le_of_ble_eq_true rfl) ho r
theorem tX9_readFrom_30 {k : Nat} (r : RQ G mX9_readFrom d 31 [some (.ref k), x1, x2, x3, x4, x5] (.ref k :: S) (h) P) : RQ G mX9_readFrom d 30 [some (.ref k), x1, x2, x3, x4, x5] (S) h P := q_aload_n (M := mX9_readFrom) (pc := 30) (r0 := some k) dX9_readFrom_30 rfl rfl r
theorem tX9_readFrom_31 {k : Nat} (r : RQ G mX9_readFrom d 32 [x0, some (.ref k), x2, x3, x4, x5] (.ref k :: S) (h) P) : RQ G mX9_readFrom d 31 [x0, some (.ref k), x2, x3, x4, x5] (S) h P := q_aload_n (M := mX9_readFrom) (pc := 31) (r0 := some k) dX9_readFrom_31 rfl rfl r
theorem tX9_readFrom_32 {v : Int32} (r : RQ G mX9_readFrom d 33 [x0, x1, x2, some (.int v), x4, x5] (.int v :: S) (h) P) : RQ G mX9_readFrom d 32 [x0, x1, x2, some (.int v), x4, x5] (S) h P := q_iload_n (M := mX9_readFrom) (pc := 32) dX9_readFrom_32 rfl rfl r
theorem tX9_readFrom_33 {b d2 : Nat} {vs : List Value} {a0 : Nat} {a1 : Int32} {Q : Int32 → AH → Prop} (hd : d2 + 1 ≤ d) (ha : At h b (.inr (7, vs))) (call : RQ G mX9_behindToken d2 0 [some (.ref b), some (.ref a0), some (.int a1), none] [] h (Ri Q)) (k : ∀ x h1, Q x h1 → RQ G mX9_readFrom d 36 [x0, x1, x2, x3, x4, x5] (.int x :: S) h1 P) (hst : (S.map fun v => v.category).sum ≤ 8 := by exact Nat.le_of_ble_eq_true rfl)  : RQ G mX9_readFrom d 33 [x0, x1, x2, x3, x4, x5] (.int a1 :: .ref a0 :: .ref b :: S) h P := q_callV (M := mX9_readFrom) (pc := 33) (M2 := mX9_behindToken) (As := [.ref a0, .int a1]) (n := 2) dX9_readFrom_33 rfl ⟨by decide, by decide, by decide, rfl⟩ rfl w961 w963 w18 w44 w964 (show CL[7]? = some (RX9, TX9, 4) from rfl) hd (by decide) (Nat.le_of_ble_eq_true rfl) rfl ha hst call (callk_i k)
theorem tX9_readFrom_36 {v : Int32} (ho : ok1 x3 = true := by rfl) (r : RQ G mX9_readFrom d 38 [x0, x1, x2, x3, some (.int v), x5] (S) (h) P) : RQ G mX9_readFrom d 36 [x0, x1, x2, x3, x4, x5] (.int v :: S) h P := q_istore (M := mX9_readFrom) (pc := 36) dX9_readFrom_36 (Nat.le_of_ble_eq_true rfl) ho r
theorem tX9_readFrom_38 {k : Nat} (r : RQ G mX9_readFrom d 39 [some (.ref k), x1, x2, x3, x4, x5] (.ref k :: S) (h) P) : RQ G mX9_readFrom d 38 [some (.ref k), x1, x2, x3, x4, x5] (S) h P := q_aload_n (M := mX9_readFrom) (pc := 38) (r0 := some k) dX9_readFrom_38 rfl rfl r
theorem tX9_readFrom_39 {k : Nat} (r : RQ G mX9_readFrom d 40 [x0, some (.ref k), x2, x3, x4, x5] (.ref k :: S) (h) P) : RQ G mX9_readFrom d 39 [x0, some (.ref k), x2, x3, x4, x5] (S) h P := q_aload_n (M := mX9_readFrom) (pc := 39) (r0 := some k) dX9_readFrom_39 rfl rfl r
theorem tX9_readFrom_40 {v : Int32} (r : RQ G mX9_readFrom d 41 [x0, x1, x2, some (.int v), x4, x5] (.int v :: S) (h) P) : RQ G mX9_readFrom d 40 [x0, x1, x2, some (.int v), x4, x5] (S) h P := q_iload_n (M := mX9_readFrom) (pc := 40) dX9_readFrom_40 rfl rfl r
theorem tX9_readFrom_41 {v : Int32} (r : RQ G mX9_readFrom d 43 [x0, x1, x2, x3, some (.int v), x5] (.int v :: S) (h) P) : RQ G mX9_readFrom d 41 [x0, x1, x2, x3, some (.int v), x5] (S) h P := q_iload (M := mX9_readFrom) (pc := 41) dX9_readFrom_41 rfl r
theorem tX9_readFrom_43 {b d2 : Nat} {vs : List Value} {a0 : Nat} {a1 : Int32} {a2 : Int32} {Q : Nat → AH → Prop} (hd : d2 + 1 ≤ d) (ha : At h b (.inr (7, vs))) (call : RQ G mX9_kindOf d2 0 [some (.ref b), some (.ref a0), some (.int a1), some (.int a2), none] [] h (Rr Q)) (k : ∀ x h1, Q x h1 → RQ G mX9_readFrom d 46 [x0, x1, x2, x3, x4, x5] (.ref x :: S) h1 P) (hst : (S.map fun v => v.category).sum ≤ 8 := by exact Nat.le_of_ble_eq_true rfl)  : RQ G mX9_readFrom d 43 [x0, x1, x2, x3, x4, x5] (.int a2 :: .int a1 :: .ref a0 :: .ref b :: S) h P := q_callV (M := mX9_readFrom) (pc := 43) (M2 := mX9_kindOf) (As := [.ref a0, .int a1, .int a2]) (n := 3) dX9_readFrom_43 rfl ⟨by decide, by decide, by decide, rfl⟩ rfl w973 w975 w19 w44 w976 (show CL[7]? = some (RX9, TX9, 4) from rfl) hd (by decide) (Nat.le_of_ble_eq_true rfl) rfl ha hst call (callk_r k)
theorem tX9_readFrom_46 {k : Nat} (ho : ok1 x4 = true := by rfl) (r : RQ G mX9_readFrom d 48 [x0, x1, x2, x3, x4, some (.ref k)] (S) (h) P) : RQ G mX9_readFrom d 46 [x0, x1, x2, x3, x4, x5] (.ref k :: S) h P := q_astore (M := mX9_readFrom) (pc := 46) (r0 := some k) dX9_readFrom_46 (Nat.le_of_ble_eq_true rfl) ho r
theorem tX9_readFrom_48 {k : Nat} (r : RQ G mX9_readFrom d 49 [some (.ref k), x1, x2, x3, x4, x5] (.ref k :: S) (h) P) : RQ G mX9_readFrom d 48 [some (.ref k), x1, x2, x3, x4, x5] (S) h P := q_aload_n (M := mX9_readFrom) (pc := 48) (r0 := some k) dX9_readFrom_48 rfl rfl r
theorem tX9_readFrom_49 {i : Nat} {vs : List Value} {v : Value} (ha : At h i (.inr (7, vs))) (hv : vs[3]? = some v) (r : RQ G mX9_readFrom d 52 [x0, x1, x2, x3, x4, x5] (v :: S) (h) P) : RQ G mX9_readFrom d 49 [x0, x1, x2, x3, x4, x5] (.ref i :: S) h P := q_get (M := mX9_readFrom) (pc := 49) (kf := 3) dX9_readFrom_49 (show CL[7]? = some (RX9, TX9, 4) from rfl) inA9 (by decide) rfl w118 ha hv r
theorem tX9_readFrom_52 (r : RQ G mX9_readFrom d 55 [x0, x1, x2, x3, x4, x5] (.int (nI 400) :: S) (h) P) : RQ G mX9_readFrom d 52 [x0, x1, x2, x3, x4, x5] (S) h P := q_sipush (M := mX9_readFrom) (pc := 52) dX9_readFrom_52 (by decide) r
theorem tX9_readFrom_55 {x y : Int32} (kt : ¬ x = y → RQ G mX9_readFrom d 71 [x0, x1, x2, x3, x4, x5] S h P) (kf : x = y → RQ G mX9_readFrom d 58 [x0, x1, x2, x3, x4, x5] S h P) : RQ G mX9_readFrom d 55 [x0, x1, x2, x3, x4, x5] (.int y :: .int x :: S) h P := q_icmp_ne (M := mX9_readFrom) (pc := 55) dX9_readFrom_55 (by decide) kt kf
theorem tX9_readFrom_58 {k : Nat} (r : RQ G mX9_readFrom d 60 [x0, x1, x2, x3, x4, some (.ref k)] (.ref k :: S) (h) P) : RQ G mX9_readFrom d 58 [x0, x1, x2, x3, x4, some (.ref k)] (S) h P := q_aload (M := mX9_readFrom) (pc := 58) (r0 := some k) dX9_readFrom_58 rfl r
theorem tX9_readFrom_60 (r : RQ G mX9_readFrom d 63 [x0, x1, x2, x3, x4, x5] (.ref (OLD + 41) :: S) (h) P) : RQ G mX9_readFrom d 60 [x0, x1, x2, x3, x4, x5] (S) h P := q_getE (M := mX9_readFrom) (pc := 60) (i := 41) dX9_readFrom_60 (by decide) w977 r
theorem tX9_readFrom_63 {i j : Nat} (hi : i < 43) (hj : j < 43) (kt : i = j → RQ G mX9_readFrom d 71 [x0, x1, x2, x3, x4, x5] S h P) (kf : ¬ i = j → RQ G mX9_readFrom d 66 [x0, x1, x2, x3, x4, x5] S h P) : RQ G mX9_readFrom d 63 [x0, x1, x2, x3, x4, x5] (.ref (OLD + j) :: .ref (OLD + i) :: S) h P := q_acmp_eq (M := mX9_readFrom) (pc := 63) dX9_readFrom_63 (by decide) hi hj kt kf
theorem tX9_readFrom_66 (r : RQ G mX9_readFrom d 69 [x0, x1, x2, x3, x4, x5] (.ref (OLD + 42) :: S) (h) P) : RQ G mX9_readFrom d 66 [x0, x1, x2, x3, x4, x5] (S) h P := q_getE (M := mX9_readFrom) (pc := 66) (i := 42) dX9_readFrom_66 (by decide) w990 r
theorem tX9_readFrom_69 {k : Nat} (ho : ok1 x4 = true := by rfl) (r : RQ G mX9_readFrom d 71 [x0, x1, x2, x3, x4, some (.ref k)] (S) (h) P) : RQ G mX9_readFrom d 69 [x0, x1, x2, x3, x4, x5] (.ref k :: S) h P := q_astore (M := mX9_readFrom) (pc := 69) (r0 := some k) dX9_readFrom_69 (Nat.le_of_ble_eq_true rfl) ho r
theorem tX9_readFrom_71 {k : Nat} (r : RQ G mX9_readFrom d 72 [some (.ref k), x1, x2, x3, x4, x5] (.ref k :: S) (h) P) : RQ G mX9_readFrom d 71 [some (.ref k), x1, x2, x3, x4, x5] (S) h P := q_aload_n (M := mX9_readFrom) (pc := 71) (r0 := some k) dX9_readFrom_71 rfl rfl r
theorem tX9_readFrom_72 {i : Nat} {vs : List Value} {v : Value} (ha : At h i (.inr (7, vs))) (hv : vs[0]? = some v) (r : RQ G mX9_readFrom d 75 [x0, x1, x2, x3, x4, x5] (v :: S) (h) P) : RQ G mX9_readFrom d 72 [x0, x1, x2, x3, x4, x5] (.ref i :: S) h P := q_get (M := mX9_readFrom) (pc := 72) (kf := 0) dX9_readFrom_72 (show CL[7]? = some (RX9, TX9, 4) from rfl) inA9 (by decide) rfl w115 ha hv r
theorem tX9_readFrom_75 {k : Nat} (r : RQ G mX9_readFrom d 76 [some (.ref k), x1, x2, x3, x4, x5] (.ref k :: S) (h) P) : RQ G mX9_readFrom d 75 [some (.ref k), x1, x2, x3, x4, x5] (S) h P := q_aload_n (M := mX9_readFrom) (pc := 75) (r0 := some k) dX9_readFrom_75 rfl rfl r
theorem tX9_readFrom_76 {i : Nat} {vs : List Value} {v : Value} (ha : At h i (.inr (7, vs))) (hv : vs[3]? = some v) (r : RQ G mX9_readFrom d 79 [x0, x1, x2, x3, x4, x5] (v :: S) (h) P) : RQ G mX9_readFrom d 76 [x0, x1, x2, x3, x4, x5] (.ref i :: S) h P := q_get (M := mX9_readFrom) (pc := 76) (kf := 3) dX9_readFrom_76 (show CL[7]? = some (RX9, TX9, 4) from rfl) inA9 (by decide) rfl w118 ha hv r
theorem tX9_readFrom_79 {k : Nat} (r : RQ G mX9_readFrom d 81 [x0, x1, x2, x3, x4, some (.ref k)] (.ref k :: S) (h) P) : RQ G mX9_readFrom d 79 [x0, x1, x2, x3, x4, some (.ref k)] (S) h P := q_aload (M := mX9_readFrom) (pc := 79) (r0 := some k) dX9_readFrom_79 rfl r
theorem tX9_readFrom_81 {a n j b : Nat} {x : Int32} {f : Nat → Option Nat} (ha : At h a (.inl (4, n, .inr (.inr (.inr (.inr f)))))) (hb : b < 43) (hx : x = nI j) (hj : j < n) (hn : n < 2147483648) (r : RQ G mX9_readFrom d 82 [x0, x1, x2, x3, x4, x5] (S) (hset h a (.inl (4, n, .inr (.inr (.inr (.inr (va_up f j (some (OLD + b))))))))) P) : RQ G mX9_readFrom d 81 [x0, x1, x2, x3, x4, x5] (.ref (OLD + b) :: .int x :: .ref a :: S) h P := q_aast4 (M := mX9_readFrom) (pc := 81) dX9_readFrom_81 ha hb hx hj hn r
theorem tX9_readFrom_82 {k : Nat} (r : RQ G mX9_readFrom d 83 [some (.ref k), x1, x2, x3, x4, x5] (.ref k :: S) (h) P) : RQ G mX9_readFrom d 82 [some (.ref k), x1, x2, x3, x4, x5] (S) h P := q_aload_n (M := mX9_readFrom) (pc := 82) (r0 := some k) dX9_readFrom_82 rfl rfl r
theorem tX9_readFrom_83 {i : Nat} {vs : List Value} {v : Value} (ha : At h i (.inr (7, vs))) (hv : vs[1]? = some v) (r : RQ G mX9_readFrom d 86 [x0, x1, x2, x3, x4, x5] (v :: S) (h) P) : RQ G mX9_readFrom d 83 [x0, x1, x2, x3, x4, x5] (.ref i :: S) h P := q_get (M := mX9_readFrom) (pc := 83) (kf := 1) dX9_readFrom_83 (show CL[7]? = some (RX9, TX9, 4) from rfl) inA9 (by decide) rfl w116 ha hv r
theorem tX9_readFrom_86 {k : Nat} (r : RQ G mX9_readFrom d 87 [some (.ref k), x1, x2, x3, x4, x5] (.ref k :: S) (h) P) : RQ G mX9_readFrom d 86 [some (.ref k), x1, x2, x3, x4, x5] (S) h P := q_aload_n (M := mX9_readFrom) (pc := 86) (r0 := some k) dX9_readFrom_86 rfl rfl r
theorem tX9_readFrom_87 {i : Nat} {vs : List Value} {v : Value} (ha : At h i (.inr (7, vs))) (hv : vs[3]? = some v) (r : RQ G mX9_readFrom d 90 [x0, x1, x2, x3, x4, x5] (v :: S) (h) P) : RQ G mX9_readFrom d 87 [x0, x1, x2, x3, x4, x5] (.ref i :: S) h P := q_get (M := mX9_readFrom) (pc := 87) (kf := 3) dX9_readFrom_87 (show CL[7]? = some (RX9, TX9, 4) from rfl) inA9 (by decide) rfl w118 ha hv r
theorem tX9_readFrom_90 {v : Int32} (r : RQ G mX9_readFrom d 91 [x0, x1, x2, some (.int v), x4, x5] (.int v :: S) (h) P) : RQ G mX9_readFrom d 90 [x0, x1, x2, some (.int v), x4, x5] (S) h P := q_iload_n (M := mX9_readFrom) (pc := 90) dX9_readFrom_90 rfl rfl r
theorem tX9_readFrom_91 {a n j : Nat} {x : Int32} {v : Int32} {f : Nat → Int32} (ha : At h a (.inl (0, n, .inl f))) (hx : x = nI j) (hj : j < n) (hn : n < 2147483648) (r : RQ G mX9_readFrom d 92 [x0, x1, x2, x3, x4, x5] (S) (hset h a (.inl (0, n, .inl (upd f j v)))) P) : RQ G mX9_readFrom d 91 [x0, x1, x2, x3, x4, x5] (.int v :: .int x :: .ref a :: S) h P := q_iast (M := mX9_readFrom) (pc := 91) dX9_readFrom_91 ha hx hj hn r
theorem tX9_readFrom_92 {k : Nat} (r : RQ G mX9_readFrom d 93 [some (.ref k), x1, x2, x3, x4, x5] (.ref k :: S) (h) P) : RQ G mX9_readFrom d 92 [some (.ref k), x1, x2, x3, x4, x5] (S) h P := q_aload_n (M := mX9_readFrom) (pc := 92) (r0 := some k) dX9_readFrom_92 rfl rfl r
theorem tX9_readFrom_93 {i : Nat} {vs : List Value} {v : Value} (ha : At h i (.inr (7, vs))) (hv : vs[2]? = some v) (r : RQ G mX9_readFrom d 96 [x0, x1, x2, x3, x4, x5] (v :: S) (h) P) : RQ G mX9_readFrom d 93 [x0, x1, x2, x3, x4, x5] (.ref i :: S) h P := q_get (M := mX9_readFrom) (pc := 93) (kf := 2) dX9_readFrom_93 (show CL[7]? = some (RX9, TX9, 4) from rfl) inA9 (by decide) rfl w117 ha hv r
theorem tX9_readFrom_96 {k : Nat} (r : RQ G mX9_readFrom d 97 [some (.ref k), x1, x2, x3, x4, x5] (.ref k :: S) (h) P) : RQ G mX9_readFrom d 96 [some (.ref k), x1, x2, x3, x4, x5] (S) h P := q_aload_n (M := mX9_readFrom) (pc := 96) (r0 := some k) dX9_readFrom_96 rfl rfl r
theorem tX9_readFrom_97 {i : Nat} {vs : List Value} {v : Value} (ha : At h i (.inr (7, vs))) (hv : vs[3]? = some v) (r : RQ G mX9_readFrom d 100 [x0, x1, x2, x3, x4, x5] (v :: S) (h) P) : RQ G mX9_readFrom d 97 [x0, x1, x2, x3, x4, x5] (.ref i :: S) h P := q_get (M := mX9_readFrom) (pc := 97) (kf := 3) dX9_readFrom_97 (show CL[7]? = some (RX9, TX9, 4) from rfl) inA9 (by decide) rfl w118 ha hv r
theorem tX9_readFrom_100 {k : Nat} (r : RQ G mX9_readFrom d 101 [some (.ref k), x1, x2, x3, x4, x5] (.ref k :: S) (h) P) : RQ G mX9_readFrom d 100 [some (.ref k), x1, x2, x3, x4, x5] (S) h P := q_aload_n (M := mX9_readFrom) (pc := 100) (r0 := some k) dX9_readFrom_100 rfl rfl r
theorem tX9_readFrom_101 {k : Nat} (r : RQ G mX9_readFrom d 102 [x0, some (.ref k), x2, x3, x4, x5] (.ref k :: S) (h) P) : RQ G mX9_readFrom d 101 [x0, some (.ref k), x2, x3, x4, x5] (S) h P := q_aload_n (M := mX9_readFrom) (pc := 101) (r0 := some k) dX9_readFrom_101 rfl rfl r
theorem tX9_readFrom_102 {k : Nat} (r : RQ G mX9_readFrom d 104 [x0, x1, x2, x3, x4, some (.ref k)] (.ref k :: S) (h) P) : RQ G mX9_readFrom d 102 [x0, x1, x2, x3, x4, some (.ref k)] (S) h P := q_aload (M := mX9_readFrom) (pc := 102) (r0 := some k) dX9_readFrom_102 rfl r
theorem tX9_readFrom_104 {v : Int32} (r : RQ G mX9_readFrom d 105 [x0, x1, x2, some (.int v), x4, x5] (.int v :: S) (h) P) : RQ G mX9_readFrom d 104 [x0, x1, x2, some (.int v), x4, x5] (S) h P := q_iload_n (M := mX9_readFrom) (pc := 104) dX9_readFrom_104 rfl rfl r
theorem tX9_readFrom_105 {v : Int32} (r : RQ G mX9_readFrom d 107 [x0, x1, x2, x3, some (.int v), x5] (.int v :: S) (h) P) : RQ G mX9_readFrom d 105 [x0, x1, x2, x3, some (.int v), x5] (S) h P := q_iload (M := mX9_readFrom) (pc := 105) dX9_readFrom_105 rfl r
theorem tX9_readFrom_107 {b d2 : Nat} {vs : List Value} {a0 : Nat} {a1 : Nat} {a2 : Int32} {a3 : Int32} {Q : Int64 → AH → Prop} (hd : d2 + 1 ≤ d) (ha : At h b (.inr (7, vs))) (call : RQ G mX9_valueOf d2 0 [some (.ref b), some (.ref a0), some (.ref a1), some (.int a2), some (.int a3), none, none, none] [] h (Rj Q)) (k : ∀ x h1, Q x h1 → RQ G mX9_readFrom d 110 [x0, x1, x2, x3, x4, x5] (.long x :: S) h1 P) (hst : (S.map fun v => v.category).sum ≤ 8 := by exact Nat.le_of_ble_eq_true rfl)  : RQ G mX9_readFrom d 107 [x0, x1, x2, x3, x4, x5] (.int a3 :: .int a2 :: .ref a1 :: .ref a0 :: .ref b :: S) h P := q_callV (M := mX9_readFrom) (pc := 107) (M2 := mX9_valueOf) (As := [.ref a0, .ref a1, .int a2, .int a3]) (n := 4) dX9_readFrom_107 rfl ⟨by decide, by decide, by decide, rfl⟩ rfl w991 w993 w20 w44 w994 (show CL[7]? = some (RX9, TX9, 4) from rfl) hd (by decide) (Nat.le_of_ble_eq_true rfl) rfl ha hst call (callk_j k)
theorem tX9_readFrom_110 {a n j : Nat} {x : Int32} {v : Int64} {f : Nat → Int64} (ha : At h a (.inl (2, n, .inr (.inl f)))) (hx : x = nI j) (hj : j < n) (hn : n < 2147483648) (r : RQ G mX9_readFrom d 111 [x0, x1, x2, x3, x4, x5] (S) (hset h a (.inl (2, n, .inr (.inl (vp_updL f j v))))) P) : RQ G mX9_readFrom d 110 [x0, x1, x2, x3, x4, x5] (.long v :: .int x :: .ref a :: S) h P := q_last (M := mX9_readFrom) (pc := 110) dX9_readFrom_110 ha hx hj hn r
theorem tX9_readFrom_111 {k : Nat} (r : RQ G mX9_readFrom d 113 [x0, x1, x2, x3, x4, some (.ref k)] (.ref k :: S) (h) P) : RQ G mX9_readFrom d 111 [x0, x1, x2, x3, x4, some (.ref k)] (S) h P := q_aload (M := mX9_readFrom) (pc := 111) (r0 := some k) dX9_readFrom_111 rfl r
theorem tX9_readFrom_113 (r : RQ G mX9_readFrom d 116 [x0, x1, x2, x3, x4, x5] (.ref (OLD + 41) :: S) (h) P) : RQ G mX9_readFrom d 113 [x0, x1, x2, x3, x4, x5] (S) h P := q_getE (M := mX9_readFrom) (pc := 113) (i := 41) dX9_readFrom_113 (by decide) w977 r
theorem tX9_readFrom_116 {i j : Nat} (hi : i < 43) (hj : j < 43) (kt : i = j → RQ G mX9_readFrom d 131 [x0, x1, x2, x3, x4, x5] S h P) (kf : ¬ i = j → RQ G mX9_readFrom d 119 [x0, x1, x2, x3, x4, x5] S h P) : RQ G mX9_readFrom d 116 [x0, x1, x2, x3, x4, x5] (.ref (OLD + j) :: .ref (OLD + i) :: S) h P := q_acmp_eq (M := mX9_readFrom) (pc := 116) dX9_readFrom_116 (by decide) hi hj kt kf
theorem tX9_readFrom_119 {k : Nat} (r : RQ G mX9_readFrom d 121 [x0, x1, x2, x3, x4, some (.ref k)] (.ref k :: S) (h) P) : RQ G mX9_readFrom d 119 [x0, x1, x2, x3, x4, some (.ref k)] (S) h P := q_aload (M := mX9_readFrom) (pc := 119) (r0 := some k) dX9_readFrom_119 rfl r
theorem tX9_readFrom_121 (r : RQ G mX9_readFrom d 124 [x0, x1, x2, x3, x4, x5] (.ref (OLD + 42) :: S) (h) P) : RQ G mX9_readFrom d 121 [x0, x1, x2, x3, x4, x5] (S) h P := q_getE (M := mX9_readFrom) (pc := 121) (i := 42) dX9_readFrom_121 (by decide) w990 r
theorem tX9_readFrom_124 {i j : Nat} (hi : i < 43) (hj : j < 43) (kt : i = j → RQ G mX9_readFrom d 131 [x0, x1, x2, x3, x4, x5] S h P) (kf : ¬ i = j → RQ G mX9_readFrom d 127 [x0, x1, x2, x3, x4, x5] S h P) : RQ G mX9_readFrom d 124 [x0, x1, x2, x3, x4, x5] (.ref (OLD + j) :: .ref (OLD + i) :: S) h P := q_acmp_eq (M := mX9_readFrom) (pc := 124) dX9_readFrom_124 (by decide) hi hj kt kf
theorem tX9_readFrom_127 (r : RQ G mX9_readFrom d 128 [x0, x1, x2, x3, x4, x5] (.int (nI 1) :: S) (h) P) : RQ G mX9_readFrom d 127 [x0, x1, x2, x3, x4, x5] (S) h P := q_iconst (M := mX9_readFrom) (pc := 127) dX9_readFrom_127 (by decide) r
theorem tX9_readFrom_128 (r : RQ G mX9_readFrom d 132 [x0, x1, x2, x3, x4, x5] S h P) : RQ G mX9_readFrom d 128 [x0, x1, x2, x3, x4, x5] (S) h P := q_goto (M := mX9_readFrom) (pc := 128) dX9_readFrom_128 (by decide) r
theorem tX9_readFrom_131 (r : RQ G mX9_readFrom d 132 [x0, x1, x2, x3, x4, x5] (.int (nI 0) :: S) (h) P) : RQ G mX9_readFrom d 131 [x0, x1, x2, x3, x4, x5] (S) h P := q_iconst (M := mX9_readFrom) (pc := 131) dX9_readFrom_131 (by decide) r
theorem tX9_readFrom_132 {v : Int32} (ho : ok1 x1 = true := by rfl) (r : RQ G mX9_readFrom d 133 [x0, x1, some (.int v), x3, x4, x5] (S) (h) P) : RQ G mX9_readFrom d 132 [x0, x1, x2, x3, x4, x5] (.int v :: S) h P := q_istore_n (M := mX9_readFrom) (pc := 132) dX9_readFrom_132 rfl (Nat.le_of_ble_eq_true rfl) ho r
theorem tX9_readFrom_133 {v : Int32} (r : RQ G mX9_readFrom d 135 [x0, x1, x2, x3, some (.int v), x5] (.int v :: S) (h) P) : RQ G mX9_readFrom d 133 [x0, x1, x2, x3, some (.int v), x5] (S) h P := q_iload (M := mX9_readFrom) (pc := 133) dX9_readFrom_133 rfl r
theorem tX9_readFrom_135 {v : Int32} (ho : ok1 x2 = true := by rfl) (r : RQ G mX9_readFrom d 136 [x0, x1, x2, some (.int v), x4, x5] (S) (h) P) : RQ G mX9_readFrom d 135 [x0, x1, x2, x3, x4, x5] (.int v :: S) h P := q_istore_n (M := mX9_readFrom) (pc := 135) dX9_readFrom_135 rfl (Nat.le_of_ble_eq_true rfl) ho r
theorem tX9_readFrom_136 {k : Nat} (r : RQ G mX9_readFrom d 137 [some (.ref k), x1, x2, x3, x4, x5] (.ref k :: S) (h) P) : RQ G mX9_readFrom d 136 [some (.ref k), x1, x2, x3, x4, x5] (S) h P := q_aload_n (M := mX9_readFrom) (pc := 136) (r0 := some k) dX9_readFrom_136 rfl rfl r
theorem tX9_readFrom_137 {v : Value} (hv : ok1 (some v) = true := by rfl) (r : RQ G mX9_readFrom d 138 [x0, x1, x2, x3, x4, x5] (v :: v :: S) (h) P) : RQ G mX9_readFrom d 137 [x0, x1, x2, x3, x4, x5] (v :: S) h P := q_dup (M := mX9_readFrom) (pc := 137) dX9_readFrom_137 hv r
theorem tX9_readFrom_138 {i : Nat} {vs : List Value} {v : Value} (ha : At h i (.inr (7, vs))) (hv : vs[3]? = some v) (r : RQ G mX9_readFrom d 141 [x0, x1, x2, x3, x4, x5] (v :: S) (h) P) : RQ G mX9_readFrom d 138 [x0, x1, x2, x3, x4, x5] (.ref i :: S) h P := q_get (M := mX9_readFrom) (pc := 138) (kf := 3) dX9_readFrom_138 (show CL[7]? = some (RX9, TX9, 4) from rfl) inA9 (by decide) rfl w118 ha hv r
theorem tX9_readFrom_141 (r : RQ G mX9_readFrom d 142 [x0, x1, x2, x3, x4, x5] (.int (nI 1) :: S) (h) P) : RQ G mX9_readFrom d 141 [x0, x1, x2, x3, x4, x5] (S) h P := q_iconst (M := mX9_readFrom) (pc := 141) dX9_readFrom_141 (by decide) r
theorem tX9_readFrom_142 {x y : Int32} (r : RQ G mX9_readFrom d 143 [x0, x1, x2, x3, x4, x5] (.int (x + y) :: S) (h) P) : RQ G mX9_readFrom d 142 [x0, x1, x2, x3, x4, x5] (.int y :: .int x :: S) h P := q_iadd (M := mX9_readFrom) (pc := 142) dX9_readFrom_142 r
theorem tX9_readFrom_143 {i : Nat} {vs : List Value} {v : Int32} (ha : At h i (.inr (7, vs))) (hlen : vs.length = 4) (r : RQ G mX9_readFrom d 146 [x0, x1, x2, x3, x4, x5] (S) (hset h i (.inr (7, vs.set 3 (.int v)))) P) : RQ G mX9_readFrom d 143 [x0, x1, x2, x3, x4, x5] (.int v :: .ref i :: S) h P := q_put (M := mX9_readFrom) (pc := 143) (kf := 3) (host := "") dX9_readFrom_143 (show CL[7]? = some (RX9, TX9, 4) from rfl) inA9 tyX9_ok nmX9 (by decide) rfl w118 rfl (tyX9_ok 3 (by decide)) (nfit_int v) (by rw [hlen]; decide) ha r
theorem tX9_readFrom_146 (r : RQ G mX9_readFrom d 9 [x0, x1, x2, x3, x4, x5] S h P) : RQ G mX9_readFrom d 146 [x0, x1, x2, x3, x4, x5] (S) h P := q_goto (M := mX9_readFrom) (pc := 146) dX9_readFrom_146 (by decide) r
theorem tX9_readFrom_149 (hP : P (.inl none) h) : RQ G mX9_readFrom d 149 [x0, x1, x2, x3, x4, x5] ([]) h P := q_return (M := mX9_readFrom) (pc := 149) dX9_readFrom_149 rfl hP
end T
theorem dX9_kindAt_0 : decode cX9_kindAt 0 = .ok (.iload_n 1, 1) := by decide +kernel
theorem dX9_kindAt_1 : decode cX9_kindAt 1 = .ok (.ifCond .lt 20, 3) := by decide +kernel
theorem dX9_kindAt_4 : decode cX9_kindAt 4 = .ok (.iload_n 1, 1) := by decide +kernel
theorem dX9_kindAt_5 : decode cX9_kindAt 5 = .ok (.aload_n 0, 1) := by decide +kernel
theorem dX9_kindAt_6 : decode cX9_kindAt 6 = .ok (.getfield 25, 3) := by decide +kernel
theorem dX9_kindAt_9 : decode cX9_kindAt 9 = .ok (.if_icmp .ge 12, 3) := by decide +kernel
theorem dX9_kindAt_12 : decode cX9_kindAt 12 = .ok (.aload_n 0, 1) := by decide +kernel
theorem dX9_kindAt_13 : decode cX9_kindAt 13 = .ok (.getfield 11, 3) := by decide +kernel
theorem dX9_kindAt_16 : decode cX9_kindAt 16 = .ok (.iload_n 1, 1) := by decide +kernel
theorem dX9_kindAt_17 : decode cX9_kindAt 17 = .ok (.aaload, 1) := by decide +kernel
theorem dX9_kindAt_18 : decode cX9_kindAt 18 = .ok (.goto 6, 3) := by decide +kernel
theorem dX9_kindAt_21 : decode cX9_kindAt 21 = .ok (.getstatic 44, 3) := by decide +kernel
theorem dX9_kindAt_24 : decode cX9_kindAt 24 = .ok (.astore_n 2, 1) := by decide +kernel
theorem dX9_kindAt_25 : decode cX9_kindAt 25 = .ok (.aload_n 2, 1) := by decide +kernel
theorem dX9_kindAt_26 : decode cX9_kindAt 26 = .ok (.ifnonnull 9, 3) := by decide +kernel
theorem dX9_kindAt_29 : decode cX9_kindAt 29 = .ok (.getstatic 44, 3) := by decide +kernel
theorem dX9_kindAt_32 : decode cX9_kindAt 32 = .ok (.goto 4, 3) := by decide +kernel
theorem dX9_kindAt_35 : decode cX9_kindAt 35 = .ok (.aload_n 2, 1) := by decide +kernel
theorem dX9_kindAt_36 : decode cX9_kindAt 36 = .ok (.areturn, 1) := by decide +kernel
section T
variable {G : GT} {d : Nat} {S : List Value} {h : AH} {P : OC → AH → Prop} {x0 x1 x2 x3 x4 x5 x6 x7 x8 x9 x10 x11 x12 x13 x14 x15 : Option Value}
theorem tX9_kindAt_0 {v : Int32} (r : RQ G mX9_kindAt d 1 [x0, some (.int v), x2] (.int v :: S) (h) P) : RQ G mX9_kindAt d 0 [x0, some (.int v), x2] (S) h P := q_iload_n (M := mX9_kindAt) (pc := 0) dX9_kindAt_0 rfl rfl r
theorem tX9_kindAt_1 {x : Int32} (kt : x < 0 → RQ G mX9_kindAt d 21 [x0, x1, x2] S h P) (kf : ¬ x < 0 → RQ G mX9_kindAt d 4 [x0, x1, x2] S h P) : RQ G mX9_kindAt d 1 [x0, x1, x2] (.int x :: S) h P := q_if_lt (M := mX9_kindAt) (pc := 1) dX9_kindAt_1 (by decide) kt kf
theorem tX9_kindAt_4 {v : Int32} (r : RQ G mX9_kindAt d 5 [x0, some (.int v), x2] (.int v :: S) (h) P) : RQ G mX9_kindAt d 4 [x0, some (.int v), x2] (S) h P := q_iload_n (M := mX9_kindAt) (pc := 4) dX9_kindAt_4 rfl rfl r
theorem tX9_kindAt_5 {k : Nat} (r : RQ G mX9_kindAt d 6 [some (.ref k), x1, x2] (.ref k :: S) (h) P) : RQ G mX9_kindAt d 5 [some (.ref k), x1, x2] (S) h P := q_aload_n (M := mX9_kindAt) (pc := 5) (r0 := some k) dX9_kindAt_5 rfl rfl r
theorem tX9_kindAt_5q {r0 : Option Nat} (r : RQ G mX9_kindAt d 6 [some (va_rf r0), x1, x2] (va_rf r0 :: S) (h) P) : RQ G mX9_kindAt d 5 [some (va_rf r0), x1, x2] S h P := q_aload_n (M := mX9_kindAt) (pc := 5) dX9_kindAt_5 rfl rfl r
theorem tX9_kindAt_6 {i : Nat} {vs : List Value} {v : Value} (ha : At h i (.inr (7, vs))) (hv : vs[3]? = some v) (r : RQ G mX9_kindAt d 9 [x0, x1, x2] (v :: S) (h) P) : RQ G mX9_kindAt d 6 [x0, x1, x2] (.ref i :: S) h P := q_get (M := mX9_kindAt) (pc := 6) (kf := 3) dX9_kindAt_6 (show CL[7]? = some (RX9, TX9, 4) from rfl) inA9 (by decide) rfl w118 ha hv r
theorem tX9_kindAt_9 {x y : Int32} (kt : y ≤ x → RQ G mX9_kindAt d 21 [x0, x1, x2] S h P) (kf : ¬ y ≤ x → RQ G mX9_kindAt d 12 [x0, x1, x2] S h P) : RQ G mX9_kindAt d 9 [x0, x1, x2] (.int y :: .int x :: S) h P := q_icmp_ge (M := mX9_kindAt) (pc := 9) dX9_kindAt_9 (by decide) kt kf
theorem tX9_kindAt_12 {k : Nat} (r : RQ G mX9_kindAt d 13 [some (.ref k), x1, x2] (.ref k :: S) (h) P) : RQ G mX9_kindAt d 12 [some (.ref k), x1, x2] (S) h P := q_aload_n (M := mX9_kindAt) (pc := 12) (r0 := some k) dX9_kindAt_12 rfl rfl r
theorem tX9_kindAt_12q {r0 : Option Nat} (r : RQ G mX9_kindAt d 13 [some (va_rf r0), x1, x2] (va_rf r0 :: S) (h) P) : RQ G mX9_kindAt d 12 [some (va_rf r0), x1, x2] S h P := q_aload_n (M := mX9_kindAt) (pc := 12) dX9_kindAt_12 rfl rfl r
theorem tX9_kindAt_13 {i : Nat} {vs : List Value} {v : Value} (ha : At h i (.inr (7, vs))) (hv : vs[0]? = some v) (r : RQ G mX9_kindAt d 16 [x0, x1, x2] (v :: S) (h) P) : RQ G mX9_kindAt d 13 [x0, x1, x2] (.ref i :: S) h P := q_get (M := mX9_kindAt) (pc := 13) (kf := 0) dX9_kindAt_13 (show CL[7]? = some (RX9, TX9, 4) from rfl) inA9 (by decide) rfl w115 ha hv r
theorem tX9_kindAt_16 {v : Int32} (r : RQ G mX9_kindAt d 17 [x0, some (.int v), x2] (.int v :: S) (h) P) : RQ G mX9_kindAt d 16 [x0, some (.int v), x2] (S) h P := q_iload_n (M := mX9_kindAt) (pc := 16) dX9_kindAt_16 rfl rfl r
theorem tX9_kindAt_17 {a n j : Nat} {x : Int32} {f : Nat → Option Nat} (ha : At h a (.inl (4, n, .inr (.inr (.inr (.inr f)))))) (hx : x = nI j) (hj : j < n) (hn : n < 2147483648) (r : RQ G mX9_kindAt d 18 [x0, x1, x2] (va_rf (f j) :: S) (h) P) : RQ G mX9_kindAt d 17 [x0, x1, x2] (.int x :: .ref a :: S) h P := q_aald4 (M := mX9_kindAt) (pc := 17) dX9_kindAt_17 ha hx hj hn r
theorem tX9_kindAt_18 (r : RQ G mX9_kindAt d 24 [x0, x1, x2] S h P) : RQ G mX9_kindAt d 18 [x0, x1, x2] (S) h P := q_goto (M := mX9_kindAt) (pc := 18) dX9_kindAt_18 (by decide) r
theorem tX9_kindAt_21 (r : RQ G mX9_kindAt d 24 [x0, x1, x2] (.ref (OLD + 42) :: S) (h) P) : RQ G mX9_kindAt d 21 [x0, x1, x2] (S) h P := q_getE (M := mX9_kindAt) (pc := 21) (i := 42) dX9_kindAt_21 (by decide) w990 r
theorem tX9_kindAt_24 {k : Nat} (ho : ok1 x1 = true := by rfl) (r : RQ G mX9_kindAt d 25 [x0, x1, some (.ref k)] (S) (h) P) : RQ G mX9_kindAt d 24 [x0, x1, x2] (.ref k :: S) h P := q_astore_n (M := mX9_kindAt) (pc := 24) (r0 := some k) dX9_kindAt_24 rfl (Nat.le_of_ble_eq_true rfl) ho r
theorem tX9_kindAt_24q {r0 : Option Nat} (ho : ok1 x1 = true := by rfl) (r : RQ G mX9_kindAt d 25 [x0, x1, some (va_rf r0)] (S) (h) P) : RQ G mX9_kindAt d 24 [x0, x1, x2] (va_rf r0 :: S) h P := q_astore_n (M := mX9_kindAt) (pc := 24) dX9_kindAt_24 rfl (Nat.le_of_ble_eq_true rfl) ho r
theorem tX9_kindAt_25 {k : Nat} (r : RQ G mX9_kindAt d 26 [x0, x1, some (.ref k)] (.ref k :: S) (h) P) : RQ G mX9_kindAt d 25 [x0, x1, some (.ref k)] (S) h P := q_aload_n (M := mX9_kindAt) (pc := 25) (r0 := some k) dX9_kindAt_25 rfl rfl r
theorem tX9_kindAt_25q {r0 : Option Nat} (r : RQ G mX9_kindAt d 26 [x0, x1, some (va_rf r0)] (va_rf r0 :: S) (h) P) : RQ G mX9_kindAt d 25 [x0, x1, some (va_rf r0)] S h P := q_aload_n (M := mX9_kindAt) (pc := 25) dX9_kindAt_25 rfl rfl r
theorem tX9_kindAt_26 {r0 : Option Nat} (kt : r0 ≠ none → RQ G mX9_kindAt d 35 [x0, x1, x2] S h P) (kf : r0 = none → RQ G mX9_kindAt d 29 [x0, x1, x2] S h P) : RQ G mX9_kindAt d 26 [x0, x1, x2] (va_rf r0 :: S) h P := q_ifnonnull (M := mX9_kindAt) (pc := 26) dX9_kindAt_26 (by decide) kt kf
theorem tX9_kindAt_29 (r : RQ G mX9_kindAt d 32 [x0, x1, x2] (.ref (OLD + 42) :: S) (h) P) : RQ G mX9_kindAt d 29 [x0, x1, x2] (S) h P := q_getE (M := mX9_kindAt) (pc := 29) (i := 42) dX9_kindAt_29 (by decide) w990 r
theorem tX9_kindAt_32 (r : RQ G mX9_kindAt d 36 [x0, x1, x2] S h P) : RQ G mX9_kindAt d 32 [x0, x1, x2] (S) h P := q_goto (M := mX9_kindAt) (pc := 32) dX9_kindAt_32 (by decide) r
theorem tX9_kindAt_35 {k : Nat} (r : RQ G mX9_kindAt d 36 [x0, x1, some (.ref k)] (.ref k :: S) (h) P) : RQ G mX9_kindAt d 35 [x0, x1, some (.ref k)] (S) h P := q_aload_n (M := mX9_kindAt) (pc := 35) (r0 := some k) dX9_kindAt_35 rfl rfl r
theorem tX9_kindAt_35q {r0 : Option Nat} (r : RQ G mX9_kindAt d 36 [x0, x1, some (va_rf r0)] (va_rf r0 :: S) (h) P) : RQ G mX9_kindAt d 35 [x0, x1, some (va_rf r0)] S h P := q_aload_n (M := mX9_kindAt) (pc := 35) dX9_kindAt_35 rfl rfl r
theorem tX9_kindAt_36 {k : Nat} (hP : P (.inl (some (.ref k))) h) : RQ G mX9_kindAt d 36 [x0, x1, x2] ([.ref k]) h P := q_areturn (M := mX9_kindAt) (pc := 36) (r0 := some k) dX9_kindAt_36 rfl hP
end T
theorem dX9_startAt_0 : decode cX9_startAt 0 = .ok (.iload_n 1, 1) := by decide +kernel
theorem dX9_startAt_1 : decode cX9_startAt 1 = .ok (.ifCond .lt 20, 3) := by decide +kernel
theorem dX9_startAt_4 : decode cX9_startAt 4 = .ok (.iload_n 1, 1) := by decide +kernel
theorem dX9_startAt_5 : decode cX9_startAt 5 = .ok (.aload_n 0, 1) := by decide +kernel
theorem dX9_startAt_6 : decode cX9_startAt 6 = .ok (.getfield 25, 3) := by decide +kernel
theorem dX9_startAt_9 : decode cX9_startAt 9 = .ok (.if_icmp .ge 12, 3) := by decide +kernel
theorem dX9_startAt_12 : decode cX9_startAt 12 = .ok (.aload_n 0, 1) := by decide +kernel
theorem dX9_startAt_13 : decode cX9_startAt 13 = .ok (.getfield 17, 3) := by decide +kernel
theorem dX9_startAt_16 : decode cX9_startAt 16 = .ok (.iload_n 1, 1) := by decide +kernel
theorem dX9_startAt_17 : decode cX9_startAt 17 = .ok (.iaload, 1) := by decide +kernel
theorem dX9_startAt_18 : decode cX9_startAt 18 = .ok (.goto 4, 3) := by decide +kernel
theorem dX9_startAt_21 : decode cX9_startAt 21 = .ok (.iconst 0, 1) := by decide +kernel
theorem dX9_startAt_22 : decode cX9_startAt 22 = .ok (.ireturn, 1) := by decide +kernel
section T
variable {G : GT} {d : Nat} {S : List Value} {h : AH} {P : OC → AH → Prop} {x0 x1 x2 x3 x4 x5 x6 x7 x8 x9 x10 x11 x12 x13 x14 x15 : Option Value}
theorem tX9_startAt_0 {v : Int32} (r : RQ G mX9_startAt d 1 [x0, some (.int v)] (.int v :: S) (h) P) : RQ G mX9_startAt d 0 [x0, some (.int v)] (S) h P := q_iload_n (M := mX9_startAt) (pc := 0) dX9_startAt_0 rfl rfl r
theorem tX9_startAt_1 {x : Int32} (kt : x < 0 → RQ G mX9_startAt d 21 [x0, x1] S h P) (kf : ¬ x < 0 → RQ G mX9_startAt d 4 [x0, x1] S h P) : RQ G mX9_startAt d 1 [x0, x1] (.int x :: S) h P := q_if_lt (M := mX9_startAt) (pc := 1) dX9_startAt_1 (by decide) kt kf
theorem tX9_startAt_4 {v : Int32} (r : RQ G mX9_startAt d 5 [x0, some (.int v)] (.int v :: S) (h) P) : RQ G mX9_startAt d 4 [x0, some (.int v)] (S) h P := q_iload_n (M := mX9_startAt) (pc := 4) dX9_startAt_4 rfl rfl r
theorem tX9_startAt_5 {k : Nat} (r : RQ G mX9_startAt d 6 [some (.ref k), x1] (.ref k :: S) (h) P) : RQ G mX9_startAt d 5 [some (.ref k), x1] (S) h P := q_aload_n (M := mX9_startAt) (pc := 5) (r0 := some k) dX9_startAt_5 rfl rfl r
theorem tX9_startAt_6 {i : Nat} {vs : List Value} {v : Value} (ha : At h i (.inr (7, vs))) (hv : vs[3]? = some v) (r : RQ G mX9_startAt d 9 [x0, x1] (v :: S) (h) P) : RQ G mX9_startAt d 6 [x0, x1] (.ref i :: S) h P := q_get (M := mX9_startAt) (pc := 6) (kf := 3) dX9_startAt_6 (show CL[7]? = some (RX9, TX9, 4) from rfl) inA9 (by decide) rfl w118 ha hv r
theorem tX9_startAt_9 {x y : Int32} (kt : y ≤ x → RQ G mX9_startAt d 21 [x0, x1] S h P) (kf : ¬ y ≤ x → RQ G mX9_startAt d 12 [x0, x1] S h P) : RQ G mX9_startAt d 9 [x0, x1] (.int y :: .int x :: S) h P := q_icmp_ge (M := mX9_startAt) (pc := 9) dX9_startAt_9 (by decide) kt kf
theorem tX9_startAt_12 {k : Nat} (r : RQ G mX9_startAt d 13 [some (.ref k), x1] (.ref k :: S) (h) P) : RQ G mX9_startAt d 12 [some (.ref k), x1] (S) h P := q_aload_n (M := mX9_startAt) (pc := 12) (r0 := some k) dX9_startAt_12 rfl rfl r
theorem tX9_startAt_13 {i : Nat} {vs : List Value} {v : Value} (ha : At h i (.inr (7, vs))) (hv : vs[1]? = some v) (r : RQ G mX9_startAt d 16 [x0, x1] (v :: S) (h) P) : RQ G mX9_startAt d 13 [x0, x1] (.ref i :: S) h P := q_get (M := mX9_startAt) (pc := 13) (kf := 1) dX9_startAt_13 (show CL[7]? = some (RX9, TX9, 4) from rfl) inA9 (by decide) rfl w116 ha hv r
theorem tX9_startAt_16 {v : Int32} (r : RQ G mX9_startAt d 17 [x0, some (.int v)] (.int v :: S) (h) P) : RQ G mX9_startAt d 16 [x0, some (.int v)] (S) h P := q_iload_n (M := mX9_startAt) (pc := 16) dX9_startAt_16 rfl rfl r
theorem tX9_startAt_17 {a n j : Nat} {x : Int32} {f : Nat → Int32} (ha : At h a (.inl (0, n, .inl f))) (hx : x = nI j) (hj : j < n) (hn : n < 2147483648) (r : RQ G mX9_startAt d 18 [x0, x1] (.int (f j) :: S) (h) P) : RQ G mX9_startAt d 17 [x0, x1] (.int x :: .ref a :: S) h P := q_iald (M := mX9_startAt) (pc := 17) dX9_startAt_17 ha hx hj hn r
theorem tX9_startAt_18 (r : RQ G mX9_startAt d 22 [x0, x1] S h P) : RQ G mX9_startAt d 18 [x0, x1] (S) h P := q_goto (M := mX9_startAt) (pc := 18) dX9_startAt_18 (by decide) r
theorem tX9_startAt_21 (r : RQ G mX9_startAt d 22 [x0, x1] (.int (nI 0) :: S) (h) P) : RQ G mX9_startAt d 21 [x0, x1] (S) h P := q_iconst (M := mX9_startAt) (pc := 21) dX9_startAt_21 (by decide) r
theorem tX9_startAt_22 {x : Int32} (hP : P (.inl (some (.int x))) h) : RQ G mX9_startAt d 22 [x0, x1] ([.int x]) h P := q_ireturn (M := mX9_startAt) (pc := 22) (ty := .int) dX9_startAt_22 rfl rfl hP
end T
theorem dX9_valueAt_0 : decode cX9_valueAt 0 = .ok (.iload_n 1, 1) := by decide +kernel
theorem dX9_valueAt_1 : decode cX9_valueAt 1 = .ok (.ifCond .lt 20, 3) := by decide +kernel
theorem dX9_valueAt_4 : decode cX9_valueAt 4 = .ok (.iload_n 1, 1) := by decide +kernel
theorem dX9_valueAt_5 : decode cX9_valueAt 5 = .ok (.aload_n 0, 1) := by decide +kernel
theorem dX9_valueAt_6 : decode cX9_valueAt 6 = .ok (.getfield 25, 3) := by decide +kernel
theorem dX9_valueAt_9 : decode cX9_valueAt 9 = .ok (.if_icmp .ge 12, 3) := by decide +kernel
theorem dX9_valueAt_12 : decode cX9_valueAt 12 = .ok (.aload_n 0, 1) := by decide +kernel
theorem dX9_valueAt_13 : decode cX9_valueAt 13 = .ok (.getfield 21, 3) := by decide +kernel
theorem dX9_valueAt_16 : decode cX9_valueAt 16 = .ok (.iload_n 1, 1) := by decide +kernel
theorem dX9_valueAt_17 : decode cX9_valueAt 17 = .ok (.laload, 1) := by decide +kernel
theorem dX9_valueAt_18 : decode cX9_valueAt 18 = .ok (.goto 4, 3) := by decide +kernel
theorem dX9_valueAt_21 : decode cX9_valueAt 21 = .ok (.lconst 0, 1) := by decide +kernel
theorem dX9_valueAt_22 : decode cX9_valueAt 22 = .ok (.lreturn, 1) := by decide +kernel
section T
variable {G : GT} {d : Nat} {S : List Value} {h : AH} {P : OC → AH → Prop} {x0 x1 x2 x3 x4 x5 x6 x7 x8 x9 x10 x11 x12 x13 x14 x15 : Option Value}
theorem tX9_valueAt_0 {v : Int32} (r : RQ G mX9_valueAt d 1 [x0, some (.int v)] (.int v :: S) (h) P) : RQ G mX9_valueAt d 0 [x0, some (.int v)] (S) h P := q_iload_n (M := mX9_valueAt) (pc := 0) dX9_valueAt_0 rfl rfl r
theorem tX9_valueAt_1 {x : Int32} (kt : x < 0 → RQ G mX9_valueAt d 21 [x0, x1] S h P) (kf : ¬ x < 0 → RQ G mX9_valueAt d 4 [x0, x1] S h P) : RQ G mX9_valueAt d 1 [x0, x1] (.int x :: S) h P := q_if_lt (M := mX9_valueAt) (pc := 1) dX9_valueAt_1 (by decide) kt kf
theorem tX9_valueAt_4 {v : Int32} (r : RQ G mX9_valueAt d 5 [x0, some (.int v)] (.int v :: S) (h) P) : RQ G mX9_valueAt d 4 [x0, some (.int v)] (S) h P := q_iload_n (M := mX9_valueAt) (pc := 4) dX9_valueAt_4 rfl rfl r
theorem tX9_valueAt_5 {k : Nat} (r : RQ G mX9_valueAt d 6 [some (.ref k), x1] (.ref k :: S) (h) P) : RQ G mX9_valueAt d 5 [some (.ref k), x1] (S) h P := q_aload_n (M := mX9_valueAt) (pc := 5) (r0 := some k) dX9_valueAt_5 rfl rfl r
theorem tX9_valueAt_6 {i : Nat} {vs : List Value} {v : Value} (ha : At h i (.inr (7, vs))) (hv : vs[3]? = some v) (r : RQ G mX9_valueAt d 9 [x0, x1] (v :: S) (h) P) : RQ G mX9_valueAt d 6 [x0, x1] (.ref i :: S) h P := q_get (M := mX9_valueAt) (pc := 6) (kf := 3) dX9_valueAt_6 (show CL[7]? = some (RX9, TX9, 4) from rfl) inA9 (by decide) rfl w118 ha hv r
theorem tX9_valueAt_9 {x y : Int32} (kt : y ≤ x → RQ G mX9_valueAt d 21 [x0, x1] S h P) (kf : ¬ y ≤ x → RQ G mX9_valueAt d 12 [x0, x1] S h P) : RQ G mX9_valueAt d 9 [x0, x1] (.int y :: .int x :: S) h P := q_icmp_ge (M := mX9_valueAt) (pc := 9) dX9_valueAt_9 (by decide) kt kf
theorem tX9_valueAt_12 {k : Nat} (r : RQ G mX9_valueAt d 13 [some (.ref k), x1] (.ref k :: S) (h) P) : RQ G mX9_valueAt d 12 [some (.ref k), x1] (S) h P := q_aload_n (M := mX9_valueAt) (pc := 12) (r0 := some k) dX9_valueAt_12 rfl rfl r
theorem tX9_valueAt_13 {i : Nat} {vs : List Value} {v : Value} (ha : At h i (.inr (7, vs))) (hv : vs[2]? = some v) (r : RQ G mX9_valueAt d 16 [x0, x1] (v :: S) (h) P) : RQ G mX9_valueAt d 13 [x0, x1] (.ref i :: S) h P := q_get (M := mX9_valueAt) (pc := 13) (kf := 2) dX9_valueAt_13 (show CL[7]? = some (RX9, TX9, 4) from rfl) inA9 (by decide) rfl w117 ha hv r
theorem tX9_valueAt_16 {v : Int32} (r : RQ G mX9_valueAt d 17 [x0, some (.int v)] (.int v :: S) (h) P) : RQ G mX9_valueAt d 16 [x0, some (.int v)] (S) h P := q_iload_n (M := mX9_valueAt) (pc := 16) dX9_valueAt_16 rfl rfl r
theorem tX9_valueAt_17 {a n j : Nat} {x : Int32} {f : Nat → Int64} (ha : At h a (.inl (2, n, .inr (.inl f)))) (hx : x = nI j) (hj : j < n) (hn : n < 2147483648) (r : RQ G mX9_valueAt d 18 [x0, x1] (.long (f j) :: S) (h) P) : RQ G mX9_valueAt d 17 [x0, x1] (.int x :: .ref a :: S) h P := q_lald (M := mX9_valueAt) (pc := 17) dX9_valueAt_17 ha hx hj hn r
theorem tX9_valueAt_18 (r : RQ G mX9_valueAt d 22 [x0, x1] S h P) : RQ G mX9_valueAt d 18 [x0, x1] (S) h P := q_goto (M := mX9_valueAt) (pc := 18) dX9_valueAt_18 (by decide) r
theorem tX9_valueAt_21 (r : RQ G mX9_valueAt d 22 [x0, x1] (.long (lN 0) :: S) (h) P) : RQ G mX9_valueAt d 21 [x0, x1] (S) h P := q_lconst (M := mX9_valueAt) (pc := 21) dX9_valueAt_21 (by decide) r
theorem tX9_valueAt_22 {x : Int64} (hP : P (.inl (some (.long x))) h) : RQ G mX9_valueAt d 22 [x0, x1] ([.long x]) h P := q_lreturn (M := mX9_valueAt) (pc := 22) dX9_valueAt_22 rfl hP
end T
theorem dX9_behindBlanks_0 : decode cX9_behindBlanks 0 = .ok (.iload_n 2, 1) := by decide +kernel
theorem dX9_behindBlanks_1 : decode cX9_behindBlanks 1 = .ok (.istore_n 3, 1) := by decide +kernel
theorem dX9_behindBlanks_2 : decode cX9_behindBlanks 2 = .ok (.iload_n 3, 1) := by decide +kernel
theorem dX9_behindBlanks_3 : decode cX9_behindBlanks 3 = .ok (.aload_n 1, 1) := by decide +kernel
theorem dX9_behindBlanks_4 : decode cX9_behindBlanks 4 = .ok (.getfield 51, 3) := by decide +kernel
theorem dX9_behindBlanks_7 : decode cX9_behindBlanks 7 = .ok (.if_icmp .ge 17, 3) := by decide +kernel
theorem dX9_behindBlanks_10 : decode cX9_behindBlanks 10 = .ok (.aload_n 1, 1) := by decide +kernel
theorem dX9_behindBlanks_11 : decode cX9_behindBlanks 11 = .ok (.iload_n 3, 1) := by decide +kernel
theorem dX9_behindBlanks_12 : decode cX9_behindBlanks 12 = .ok (.invokevirtual 56, 3) := by decide +kernel
theorem dX9_behindBlanks_15 : decode cX9_behindBlanks 15 = .ok (.ifCond .eq 9, 3) := by decide +kernel
theorem dX9_behindBlanks_18 : decode cX9_behindBlanks 18 = .ok (.iinc 3 1, 3) := by decide +kernel
theorem dX9_behindBlanks_21 : decode cX9_behindBlanks 21 = .ok (.goto (-19), 3) := by decide +kernel
theorem dX9_behindBlanks_24 : decode cX9_behindBlanks 24 = .ok (.iload_n 3, 1) := by decide +kernel
theorem dX9_behindBlanks_25 : decode cX9_behindBlanks 25 = .ok (.ireturn, 1) := by decide +kernel
section T
variable {G : GT} {d : Nat} {S : List Value} {h : AH} {P : OC → AH → Prop} {x0 x1 x2 x3 x4 x5 x6 x7 x8 x9 x10 x11 x12 x13 x14 x15 : Option Value}
theorem tX9_behindBlanks_0 {v : Int32} (r : RQ G mX9_behindBlanks d 1 [x0, x1, some (.int v), x3] (.int v :: S) (h) P) : RQ G mX9_behindBlanks d 0 [x0, x1, some (.int v), x3] (S) h P := q_iload_n (M := mX9_behindBlanks) (pc := 0) dX9_behindBlanks_0 rfl rfl r
theorem tX9_behindBlanks_1 {v : Int32} (ho : ok1 x2 = true := by rfl) (r : RQ G mX9_behindBlanks d 2 [x0, x1, x2, some (.int v)] (S) (h) P) : RQ G mX9_behindBlanks d 1 [x0, x1, x2, x3] (.int v :: S) h P := q_istore_n (M := mX9_behindBlanks) (pc := 1) dX9_behindBlanks_1 rfl (Nat.le_of_ble_eq_true rfl) ho r
theorem tX9_behindBlanks_2 {v : Int32} (r : RQ G mX9_behindBlanks d 3 [x0, x1, x2, some (.int v)] (.int v :: S) (h) P) : RQ G mX9_behindBlanks d 2 [x0, x1, x2, some (.int v)] (S) h P := q_iload_n (M := mX9_behindBlanks) (pc := 2) dX9_behindBlanks_2 rfl rfl r
theorem tX9_behindBlanks_3 {k : Nat} (r : RQ G mX9_behindBlanks d 4 [x0, some (.ref k), x2, x3] (.ref k :: S) (h) P) : RQ G mX9_behindBlanks d 3 [x0, some (.ref k), x2, x3] (S) h P := q_aload_n (M := mX9_behindBlanks) (pc := 3) (r0 := some k) dX9_behindBlanks_3 rfl rfl r
theorem tX9_behindBlanks_4 {i : Nat} {vs : List Value} {v : Value} (ha : At h i (.inr (6, vs))) (hv : vs[1]? = some v) (r : RQ G mX9_behindBlanks d 7 [x0, x1, x2, x3] (v :: S) (h) P) : RQ G mX9_behindBlanks d 4 [x0, x1, x2, x3] (.ref i :: S) h P := q_getN (M := mX9_behindBlanks) (pc := 4) (kf := 1) dX9_behindBlanks_4 (show CL[6]? = some (RX8, TX8, 2) from rfl) inA8 (by decide) rfl v94 ha hv r
theorem tX9_behindBlanks_7 {x y : Int32} (kt : y ≤ x → RQ G mX9_behindBlanks d 24 [x0, x1, x2, x3] S h P) (kf : ¬ y ≤ x → RQ G mX9_behindBlanks d 10 [x0, x1, x2, x3] S h P) : RQ G mX9_behindBlanks d 7 [x0, x1, x2, x3] (.int y :: .int x :: S) h P := q_icmp_ge (M := mX9_behindBlanks) (pc := 7) dX9_behindBlanks_7 (by decide) kt kf
theorem tX9_behindBlanks_10 {k : Nat} (r : RQ G mX9_behindBlanks d 11 [x0, some (.ref k), x2, x3] (.ref k :: S) (h) P) : RQ G mX9_behindBlanks d 10 [x0, some (.ref k), x2, x3] (S) h P := q_aload_n (M := mX9_behindBlanks) (pc := 10) (r0 := some k) dX9_behindBlanks_10 rfl rfl r
theorem tX9_behindBlanks_11 {v : Int32} (r : RQ G mX9_behindBlanks d 12 [x0, x1, x2, some (.int v)] (.int v :: S) (h) P) : RQ G mX9_behindBlanks d 11 [x0, x1, x2, some (.int v)] (S) h P := q_iload_n (M := mX9_behindBlanks) (pc := 11) dX9_behindBlanks_11 rfl rfl r
theorem tX9_behindBlanks_12 {b d2 : Nat} {vs : List Value} {a0 : Int32} {Q : Int32 → AH → Prop} (hd : d2 + 1 ≤ d) (ha : At h b (.inr (6, vs))) (call : RQ G mX8_isBlank d2 0 [some (.ref b), some (.int a0)] [] h (Ri Q)) (k : ∀ x h1, Q x h1 → RQ G mX9_behindBlanks d 15 [x0, x1, x2, x3] (.int x :: S) h1 P) (hst : (S.map fun v => v.category).sum ≤ 8 := by exact Nat.le_of_ble_eq_true rfl)  : RQ G mX9_behindBlanks d 12 [x0, x1, x2, x3] (.int a0 :: .ref b :: S) h P := q_callV (M := mX9_behindBlanks) (pc := 12) (M2 := mX8_isBlank) (As := [.int a0]) (n := 1) dX9_behindBlanks_12 rfl ⟨by decide, by decide, by decide, rfl⟩ rfl w953 w954 w955 w42 w956 (show CL[6]? = some (RX8, TX8, 2) from rfl) hd (by decide) (Nat.le_of_ble_eq_true rfl) rfl ha hst call (callk_i k)
theorem tX9_behindBlanks_15 {x : Int32} (kt : x = 0 → RQ G mX9_behindBlanks d 24 [x0, x1, x2, x3] S h P) (kf : ¬ x = 0 → RQ G mX9_behindBlanks d 18 [x0, x1, x2, x3] S h P) : RQ G mX9_behindBlanks d 15 [x0, x1, x2, x3] (.int x :: S) h P := q_if_eq (M := mX9_behindBlanks) (pc := 15) dX9_behindBlanks_15 (by decide) kt kf
theorem tX9_behindBlanks_18 {v : Int32} (ho : ok1 x2 = true := by rfl) (r : RQ G mX9_behindBlanks d 21 [x0, x1, x2, some (.int (v + (nI 1)))] (S) (h) P) : RQ G mX9_behindBlanks d 18 [x0, x1, x2, some (.int v)] (S) h P := q_iinc (M := mX9_behindBlanks) (pc := 18) dX9_behindBlanks_18 rfl (congrArg (v + ·) (show Int32.ofInt (1) = (nI 1) by decide)) (Nat.le_of_ble_eq_true rfl) ho r
theorem tX9_behindBlanks_21 (r : RQ G mX9_behindBlanks d 2 [x0, x1, x2, x3] S h P) : RQ G mX9_behindBlanks d 21 [x0, x1, x2, x3] (S) h P := q_goto (M := mX9_behindBlanks) (pc := 21) dX9_behindBlanks_21 (by decide) r
theorem tX9_behindBlanks_24 {v : Int32} (r : RQ G mX9_behindBlanks d 25 [x0, x1, x2, some (.int v)] (.int v :: S) (h) P) : RQ G mX9_behindBlanks d 24 [x0, x1, x2, some (.int v)] (S) h P := q_iload_n (M := mX9_behindBlanks) (pc := 24) dX9_behindBlanks_24 rfl rfl r
theorem tX9_behindBlanks_25 {x : Int32} (hP : P (.inl (some (.int x))) h) : RQ G mX9_behindBlanks d 25 [x0, x1, x2, x3] ([.int x]) h P := q_ireturn (M := mX9_behindBlanks) (pc := 25) (ty := .int) dX9_behindBlanks_25 rfl rfl hP
end T
theorem dX9_behindToken_0 : decode cX9_behindToken 0 = .ok (.iload_n 2, 1) := by decide +kernel
theorem dX9_behindToken_1 : decode cX9_behindToken 1 = .ok (.iconst 1, 1) := by decide +kernel
theorem dX9_behindToken_2 : decode cX9_behindToken 2 = .ok (.iadd, 1) := by decide +kernel
theorem dX9_behindToken_3 : decode cX9_behindToken 3 = .ok (.istore_n 3, 1) := by decide +kernel
theorem dX9_behindToken_4 : decode cX9_behindToken 4 = .ok (.aload_n 1, 1) := by decide +kernel
theorem dX9_behindToken_5 : decode cX9_behindToken 5 = .ok (.iload_n 2, 1) := by decide +kernel
theorem dX9_behindToken_6 : decode cX9_behindToken 6 = .ok (.invokevirtual 60, 3) := by decide +kernel
theorem dX9_behindToken_9 : decode cX9_behindToken 9 = .ok (.ifCond .eq 25, 3) := by decide +kernel
theorem dX9_behindToken_12 : decode cX9_behindToken 12 = .ok (.iload_n 3, 1) := by decide +kernel
theorem dX9_behindToken_13 : decode cX9_behindToken 13 = .ok (.aload_n 1, 1) := by decide +kernel
theorem dX9_behindToken_14 : decode cX9_behindToken 14 = .ok (.getfield 51, 3) := by decide +kernel
theorem dX9_behindToken_17 : decode cX9_behindToken 17 = .ok (.if_icmp .ge 47, 3) := by decide +kernel
theorem dX9_behindToken_20 : decode cX9_behindToken 20 = .ok (.aload_n 1, 1) := by decide +kernel
theorem dX9_behindToken_21 : decode cX9_behindToken 21 = .ok (.iload_n 3, 1) := by decide +kernel
theorem dX9_behindToken_22 : decode cX9_behindToken 22 = .ok (.invokevirtual 60, 3) := by decide +kernel
theorem dX9_behindToken_25 : decode cX9_behindToken 25 = .ok (.ifCond .eq 39, 3) := by decide +kernel
theorem dX9_behindToken_28 : decode cX9_behindToken 28 = .ok (.iinc 3 1, 3) := by decide +kernel
theorem dX9_behindToken_31 : decode cX9_behindToken 31 = .ok (.goto (-19), 3) := by decide +kernel
theorem dX9_behindToken_34 : decode cX9_behindToken 34 = .ok (.aload_n 1, 1) := by decide +kernel
theorem dX9_behindToken_35 : decode cX9_behindToken 35 = .ok (.iload_n 2, 1) := by decide +kernel
theorem dX9_behindToken_36 : decode cX9_behindToken 36 = .ok (.invokevirtual 63, 3) := by decide +kernel
theorem dX9_behindToken_39 : decode cX9_behindToken 39 = .ok (.ifCond .eq 25, 3) := by decide +kernel
theorem dX9_behindToken_42 : decode cX9_behindToken 42 = .ok (.iload_n 3, 1) := by decide +kernel
theorem dX9_behindToken_43 : decode cX9_behindToken 43 = .ok (.aload_n 1, 1) := by decide +kernel
theorem dX9_behindToken_44 : decode cX9_behindToken 44 = .ok (.getfield 51, 3) := by decide +kernel
theorem dX9_behindToken_47 : decode cX9_behindToken 47 = .ok (.if_icmp .ge 17, 3) := by decide +kernel
theorem dX9_behindToken_50 : decode cX9_behindToken 50 = .ok (.aload_n 1, 1) := by decide +kernel
theorem dX9_behindToken_51 : decode cX9_behindToken 51 = .ok (.iload_n 3, 1) := by decide +kernel
theorem dX9_behindToken_52 : decode cX9_behindToken 52 = .ok (.invokevirtual 63, 3) := by decide +kernel
theorem dX9_behindToken_55 : decode cX9_behindToken 55 = .ok (.ifCond .eq 9, 3) := by decide +kernel
theorem dX9_behindToken_58 : decode cX9_behindToken 58 = .ok (.iinc 3 1, 3) := by decide +kernel
theorem dX9_behindToken_61 : decode cX9_behindToken 61 = .ok (.goto (-19), 3) := by decide +kernel
theorem dX9_behindToken_64 : decode cX9_behindToken 64 = .ok (.iload_n 3, 1) := by decide +kernel
theorem dX9_behindToken_65 : decode cX9_behindToken 65 = .ok (.ireturn, 1) := by decide +kernel
section T
variable {G : GT} {d : Nat} {S : List Value} {h : AH} {P : OC → AH → Prop} {x0 x1 x2 x3 x4 x5 x6 x7 x8 x9 x10 x11 x12 x13 x14 x15 : Option Value}
theorem tX9_behindToken_0 {v : Int32} (r : RQ G mX9_behindToken d 1 [x0, x1, some (.int v), x3] (.int v :: S) (h) P) : RQ G mX9_behindToken d 0 [x0, x1, some (.int v), x3] (S) h P := q_iload_n (M := mX9_behindToken) (pc := 0) dX9_behindToken_0 rfl rfl r
theorem tX9_behindToken_1 (r : RQ G mX9_behindToken d 2 [x0, x1, x2, x3] (.int (nI 1) :: S) (h) P) : RQ G mX9_behindToken d 1 [x0, x1, x2, x3] (S) h P := q_iconst (M := mX9_behindToken) (pc := 1) dX9_behindToken_1 (by decide) r
theorem tX9_behindToken_2 {x y : Int32} (r : RQ G mX9_behindToken d 3 [x0, x1, x2, x3] (.int (x + y) :: S) (h) P) : RQ G mX9_behindToken d 2 [x0, x1, x2, x3] (.int y :: .int x :: S) h P := q_iadd (M := mX9_behindToken) (pc := 2) dX9_behindToken_2 r
theorem tX9_behindToken_3 {v : Int32} (ho : ok1 x2 = true := by rfl) (r : RQ G mX9_behindToken d 4 [x0, x1, x2, some (.int v)] (S) (h) P) : RQ G mX9_behindToken d 3 [x0, x1, x2, x3] (.int v :: S) h P := q_istore_n (M := mX9_behindToken) (pc := 3) dX9_behindToken_3 rfl (Nat.le_of_ble_eq_true rfl) ho r
theorem tX9_behindToken_4 {k : Nat} (r : RQ G mX9_behindToken d 5 [x0, some (.ref k), x2, x3] (.ref k :: S) (h) P) : RQ G mX9_behindToken d 4 [x0, some (.ref k), x2, x3] (S) h P := q_aload_n (M := mX9_behindToken) (pc := 4) (r0 := some k) dX9_behindToken_4 rfl rfl r
theorem tX9_behindToken_5 {v : Int32} (r : RQ G mX9_behindToken d 6 [x0, x1, some (.int v), x3] (.int v :: S) (h) P) : RQ G mX9_behindToken d 5 [x0, x1, some (.int v), x3] (S) h P := q_iload_n (M := mX9_behindToken) (pc := 5) dX9_behindToken_5 rfl rfl r
theorem tX9_behindToken_6 {b d2 : Nat} {vs : List Value} {a0 : Int32} {Q : Int32 → AH → Prop} (hd : d2 + 1 ≤ d) (ha : At h b (.inr (6, vs))) (call : RQ G mX8_isLetter d2 0 [some (.ref b), some (.int a0)] [] h (Ri Q)) (k : ∀ x h1, Q x h1 → RQ G mX9_behindToken d 9 [x0, x1, x2, x3] (.int x :: S) h1 P) (hst : (S.map fun v => v.category).sum ≤ 8 := by exact Nat.le_of_ble_eq_true rfl)  : RQ G mX9_behindToken d 6 [x0, x1, x2, x3] (.int a0 :: .ref b :: S) h P := q_callV (M := mX9_behindToken) (pc := 6) (M2 := mX8_isLetter) (As := [.int a0]) (n := 1) dX9_behindToken_6 rfl ⟨by decide, by decide, by decide, rfl⟩ rfl w965 w966 w967 w42 w968 (show CL[6]? = some (RX8, TX8, 2) from rfl) hd (by decide) (Nat.le_of_ble_eq_true rfl) rfl ha hst call (callk_i k)
theorem tX9_behindToken_9 {x : Int32} (kt : x = 0 → RQ G mX9_behindToken d 34 [x0, x1, x2, x3] S h P) (kf : ¬ x = 0 → RQ G mX9_behindToken d 12 [x0, x1, x2, x3] S h P) : RQ G mX9_behindToken d 9 [x0, x1, x2, x3] (.int x :: S) h P := q_if_eq (M := mX9_behindToken) (pc := 9) dX9_behindToken_9 (by decide) kt kf
theorem tX9_behindToken_12 {v : Int32} (r : RQ G mX9_behindToken d 13 [x0, x1, x2, some (.int v)] (.int v :: S) (h) P) : RQ G mX9_behindToken d 12 [x0, x1, x2, some (.int v)] (S) h P := q_iload_n (M := mX9_behindToken) (pc := 12) dX9_behindToken_12 rfl rfl r
theorem tX9_behindToken_13 {k : Nat} (r : RQ G mX9_behindToken d 14 [x0, some (.ref k), x2, x3] (.ref k :: S) (h) P) : RQ G mX9_behindToken d 13 [x0, some (.ref k), x2, x3] (S) h P := q_aload_n (M := mX9_behindToken) (pc := 13) (r0 := some k) dX9_behindToken_13 rfl rfl r
theorem tX9_behindToken_14 {i : Nat} {vs : List Value} {v : Value} (ha : At h i (.inr (6, vs))) (hv : vs[1]? = some v) (r : RQ G mX9_behindToken d 17 [x0, x1, x2, x3] (v :: S) (h) P) : RQ G mX9_behindToken d 14 [x0, x1, x2, x3] (.ref i :: S) h P := q_getN (M := mX9_behindToken) (pc := 14) (kf := 1) dX9_behindToken_14 (show CL[6]? = some (RX8, TX8, 2) from rfl) inA8 (by decide) rfl v94 ha hv r
theorem tX9_behindToken_17 {x y : Int32} (kt : y ≤ x → RQ G mX9_behindToken d 64 [x0, x1, x2, x3] S h P) (kf : ¬ y ≤ x → RQ G mX9_behindToken d 20 [x0, x1, x2, x3] S h P) : RQ G mX9_behindToken d 17 [x0, x1, x2, x3] (.int y :: .int x :: S) h P := q_icmp_ge (M := mX9_behindToken) (pc := 17) dX9_behindToken_17 (by decide) kt kf
theorem tX9_behindToken_20 {k : Nat} (r : RQ G mX9_behindToken d 21 [x0, some (.ref k), x2, x3] (.ref k :: S) (h) P) : RQ G mX9_behindToken d 20 [x0, some (.ref k), x2, x3] (S) h P := q_aload_n (M := mX9_behindToken) (pc := 20) (r0 := some k) dX9_behindToken_20 rfl rfl r
theorem tX9_behindToken_21 {v : Int32} (r : RQ G mX9_behindToken d 22 [x0, x1, x2, some (.int v)] (.int v :: S) (h) P) : RQ G mX9_behindToken d 21 [x0, x1, x2, some (.int v)] (S) h P := q_iload_n (M := mX9_behindToken) (pc := 21) dX9_behindToken_21 rfl rfl r
theorem tX9_behindToken_22 {b d2 : Nat} {vs : List Value} {a0 : Int32} {Q : Int32 → AH → Prop} (hd : d2 + 1 ≤ d) (ha : At h b (.inr (6, vs))) (call : RQ G mX8_isLetter d2 0 [some (.ref b), some (.int a0)] [] h (Ri Q)) (k : ∀ x h1, Q x h1 → RQ G mX9_behindToken d 25 [x0, x1, x2, x3] (.int x :: S) h1 P) (hst : (S.map fun v => v.category).sum ≤ 8 := by exact Nat.le_of_ble_eq_true rfl)  : RQ G mX9_behindToken d 22 [x0, x1, x2, x3] (.int a0 :: .ref b :: S) h P := q_callV (M := mX9_behindToken) (pc := 22) (M2 := mX8_isLetter) (As := [.int a0]) (n := 1) dX9_behindToken_22 rfl ⟨by decide, by decide, by decide, rfl⟩ rfl w965 w966 w967 w42 w968 (show CL[6]? = some (RX8, TX8, 2) from rfl) hd (by decide) (Nat.le_of_ble_eq_true rfl) rfl ha hst call (callk_i k)
theorem tX9_behindToken_25 {x : Int32} (kt : x = 0 → RQ G mX9_behindToken d 64 [x0, x1, x2, x3] S h P) (kf : ¬ x = 0 → RQ G mX9_behindToken d 28 [x0, x1, x2, x3] S h P) : RQ G mX9_behindToken d 25 [x0, x1, x2, x3] (.int x :: S) h P := q_if_eq (M := mX9_behindToken) (pc := 25) dX9_behindToken_25 (by decide) kt kf
theorem tX9_behindToken_28 {v : Int32} (ho : ok1 x2 = true := by rfl) (r : RQ G mX9_behindToken d 31 [x0, x1, x2, some (.int (v + (nI 1)))] (S) (h) P) : RQ G mX9_behindToken d 28 [x0, x1, x2, some (.int v)] (S) h P := q_iinc (M := mX9_behindToken) (pc := 28) dX9_behindToken_28 rfl (congrArg (v + ·) (show Int32.ofInt (1) = (nI 1) by decide)) (Nat.le_of_ble_eq_true rfl) ho r
theorem tX9_behindToken_31 (r : RQ G mX9_behindToken d 12 [x0, x1, x2, x3] S h P) : RQ G mX9_behindToken d 31 [x0, x1, x2, x3] (S) h P := q_goto (M := mX9_behindToken) (pc := 31) dX9_behindToken_31 (by decide) r
theorem tX9_behindToken_34 {k : Nat} (r : RQ G mX9_behindToken d 35 [x0, some (.ref k), x2, x3] (.ref k :: S) (h) P) : RQ G mX9_behindToken d 34 [x0, some (.ref k), x2, x3] (S) h P := q_aload_n (M := mX9_behindToken) (pc := 34) (r0 := some k) dX9_behindToken_34 rfl rfl r
theorem tX9_behindToken_35 {v : Int32} (r : RQ G mX9_behindToken d 36 [x0, x1, some (.int v), x3] (.int v :: S) (h) P) : RQ G mX9_behindToken d 35 [x0, x1, some (.int v), x3] (S) h P := q_iload_n (M := mX9_behindToken) (pc := 35) dX9_behindToken_35 rfl rfl r
theorem tX9_behindToken_36 {b d2 : Nat} {vs : List Value} {a0 : Int32} {Q : Int32 → AH → Prop} (hd : d2 + 1 ≤ d) (ha : At h b (.inr (6, vs))) (call : RQ G mX8_isDigit d2 0 [some (.ref b), some (.int a0)] [] h (Ri Q)) (k : ∀ x h1, Q x h1 → RQ G mX9_behindToken d 39 [x0, x1, x2, x3] (.int x :: S) h1 P) (hst : (S.map fun v => v.category).sum ≤ 8 := by exact Nat.le_of_ble_eq_true rfl)  : RQ G mX9_behindToken d 36 [x0, x1, x2, x3] (.int a0 :: .ref b :: S) h P := q_callV (M := mX9_behindToken) (pc := 36) (M2 := mX8_isDigit) (As := [.int a0]) (n := 1) dX9_behindToken_36 rfl ⟨by decide, by decide, by decide, rfl⟩ rfl w969 w970 w971 w42 w972 (show CL[6]? = some (RX8, TX8, 2) from rfl) hd (by decide) (Nat.le_of_ble_eq_true rfl) rfl ha hst call (callk_i k)
theorem tX9_behindToken_39 {x : Int32} (kt : x = 0 → RQ G mX9_behindToken d 64 [x0, x1, x2, x3] S h P) (kf : ¬ x = 0 → RQ G mX9_behindToken d 42 [x0, x1, x2, x3] S h P) : RQ G mX9_behindToken d 39 [x0, x1, x2, x3] (.int x :: S) h P := q_if_eq (M := mX9_behindToken) (pc := 39) dX9_behindToken_39 (by decide) kt kf
theorem tX9_behindToken_42 {v : Int32} (r : RQ G mX9_behindToken d 43 [x0, x1, x2, some (.int v)] (.int v :: S) (h) P) : RQ G mX9_behindToken d 42 [x0, x1, x2, some (.int v)] (S) h P := q_iload_n (M := mX9_behindToken) (pc := 42) dX9_behindToken_42 rfl rfl r
theorem tX9_behindToken_43 {k : Nat} (r : RQ G mX9_behindToken d 44 [x0, some (.ref k), x2, x3] (.ref k :: S) (h) P) : RQ G mX9_behindToken d 43 [x0, some (.ref k), x2, x3] (S) h P := q_aload_n (M := mX9_behindToken) (pc := 43) (r0 := some k) dX9_behindToken_43 rfl rfl r
theorem tX9_behindToken_44 {i : Nat} {vs : List Value} {v : Value} (ha : At h i (.inr (6, vs))) (hv : vs[1]? = some v) (r : RQ G mX9_behindToken d 47 [x0, x1, x2, x3] (v :: S) (h) P) : RQ G mX9_behindToken d 44 [x0, x1, x2, x3] (.ref i :: S) h P := q_getN (M := mX9_behindToken) (pc := 44) (kf := 1) dX9_behindToken_44 (show CL[6]? = some (RX8, TX8, 2) from rfl) inA8 (by decide) rfl v94 ha hv r
theorem tX9_behindToken_47 {x y : Int32} (kt : y ≤ x → RQ G mX9_behindToken d 64 [x0, x1, x2, x3] S h P) (kf : ¬ y ≤ x → RQ G mX9_behindToken d 50 [x0, x1, x2, x3] S h P) : RQ G mX9_behindToken d 47 [x0, x1, x2, x3] (.int y :: .int x :: S) h P := q_icmp_ge (M := mX9_behindToken) (pc := 47) dX9_behindToken_47 (by decide) kt kf
theorem tX9_behindToken_50 {k : Nat} (r : RQ G mX9_behindToken d 51 [x0, some (.ref k), x2, x3] (.ref k :: S) (h) P) : RQ G mX9_behindToken d 50 [x0, some (.ref k), x2, x3] (S) h P := q_aload_n (M := mX9_behindToken) (pc := 50) (r0 := some k) dX9_behindToken_50 rfl rfl r
theorem tX9_behindToken_51 {v : Int32} (r : RQ G mX9_behindToken d 52 [x0, x1, x2, some (.int v)] (.int v :: S) (h) P) : RQ G mX9_behindToken d 51 [x0, x1, x2, some (.int v)] (S) h P := q_iload_n (M := mX9_behindToken) (pc := 51) dX9_behindToken_51 rfl rfl r
theorem tX9_behindToken_52 {b d2 : Nat} {vs : List Value} {a0 : Int32} {Q : Int32 → AH → Prop} (hd : d2 + 1 ≤ d) (ha : At h b (.inr (6, vs))) (call : RQ G mX8_isDigit d2 0 [some (.ref b), some (.int a0)] [] h (Ri Q)) (k : ∀ x h1, Q x h1 → RQ G mX9_behindToken d 55 [x0, x1, x2, x3] (.int x :: S) h1 P) (hst : (S.map fun v => v.category).sum ≤ 8 := by exact Nat.le_of_ble_eq_true rfl)  : RQ G mX9_behindToken d 52 [x0, x1, x2, x3] (.int a0 :: .ref b :: S) h P := q_callV (M := mX9_behindToken) (pc := 52) (M2 := mX8_isDigit) (As := [.int a0]) (n := 1) dX9_behindToken_52 rfl ⟨by decide, by decide, by decide, rfl⟩ rfl w969 w970 w971 w42 w972 (show CL[6]? = some (RX8, TX8, 2) from rfl) hd (by decide) (Nat.le_of_ble_eq_true rfl) rfl ha hst call (callk_i k)
theorem tX9_behindToken_55 {x : Int32} (kt : x = 0 → RQ G mX9_behindToken d 64 [x0, x1, x2, x3] S h P) (kf : ¬ x = 0 → RQ G mX9_behindToken d 58 [x0, x1, x2, x3] S h P) : RQ G mX9_behindToken d 55 [x0, x1, x2, x3] (.int x :: S) h P := q_if_eq (M := mX9_behindToken) (pc := 55) dX9_behindToken_55 (by decide) kt kf
theorem tX9_behindToken_58 {v : Int32} (ho : ok1 x2 = true := by rfl) (r : RQ G mX9_behindToken d 61 [x0, x1, x2, some (.int (v + (nI 1)))] (S) (h) P) : RQ G mX9_behindToken d 58 [x0, x1, x2, some (.int v)] (S) h P := q_iinc (M := mX9_behindToken) (pc := 58) dX9_behindToken_58 rfl (congrArg (v + ·) (show Int32.ofInt (1) = (nI 1) by decide)) (Nat.le_of_ble_eq_true rfl) ho r
theorem tX9_behindToken_61 (r : RQ G mX9_behindToken d 42 [x0, x1, x2, x3] S h P) : RQ G mX9_behindToken d 61 [x0, x1, x2, x3] (S) h P := q_goto (M := mX9_behindToken) (pc := 61) dX9_behindToken_61 (by decide) r
theorem tX9_behindToken_64 {v : Int32} (r : RQ G mX9_behindToken d 65 [x0, x1, x2, some (.int v)] (.int v :: S) (h) P) : RQ G mX9_behindToken d 64 [x0, x1, x2, some (.int v)] (S) h P := q_iload_n (M := mX9_behindToken) (pc := 64) dX9_behindToken_64 rfl rfl r
theorem tX9_behindToken_65 {x : Int32} (hP : P (.inl (some (.int x))) h) : RQ G mX9_behindToken d 65 [x0, x1, x2, x3] ([.int x]) h P := q_ireturn (M := mX9_behindToken) (pc := 65) (ty := .int) dX9_behindToken_65 rfl rfl hP
end T
theorem dX9_kindOf_0 : decode cX9_kindOf 0 = .ok (.iload_n 2, 1) := by decide +kernel
theorem dX9_kindOf_1 : decode cX9_kindOf 1 = .ok (.aload_n 1, 1) := by decide +kernel
theorem dX9_kindOf_2 : decode cX9_kindOf 2 = .ok (.getfield 51, 3) := by decide +kernel
theorem dX9_kindOf_5 : decode cX9_kindOf 5 = .ok (.if_icmp .lt 7, 3) := by decide +kernel
theorem dX9_kindOf_8 : decode cX9_kindOf 8 = .ok (.getstatic 40, 3) := by decide +kernel
theorem dX9_kindOf_11 : decode cX9_kindOf 11 = .ok (.areturn, 1) := by decide +kernel
theorem dX9_kindOf_12 : decode cX9_kindOf 12 = .ok (.iconst 0, 1) := by decide +kernel
theorem dX9_kindOf_13 : decode cX9_kindOf 13 = .ok (.istore 4, 2) := by decide +kernel
theorem dX9_kindOf_15 : decode cX9_kindOf 15 = .ok (.iload 4, 2) := by decide +kernel
theorem dX9_kindOf_17 : decode cX9_kindOf 17 = .ok (.getstatic 66, 3) := by decide +kernel
theorem dX9_kindOf_20 : decode cX9_kindOf 20 = .ok (.arraylength, 1) := by decide +kernel
theorem dX9_kindOf_21 : decode cX9_kindOf 21 = .ok (.if_icmp .ge 34, 3) := by decide +kernel
theorem dX9_kindOf_24 : decode cX9_kindOf 24 = .ok (.aload_n 1, 1) := by decide +kernel
theorem dX9_kindOf_25 : decode cX9_kindOf 25 = .ok (.getstatic 66, 3) := by decide +kernel
theorem dX9_kindOf_28 : decode cX9_kindOf 28 = .ok (.iload 4, 2) := by decide +kernel
theorem dX9_kindOf_30 : decode cX9_kindOf 30 = .ok (.aaload, 1) := by decide +kernel
theorem dX9_kindOf_31 : decode cX9_kindOf 31 = .ok (.getfield 69, 3) := by decide +kernel
theorem dX9_kindOf_34 : decode cX9_kindOf 34 = .ok (.iload_n 2, 1) := by decide +kernel
theorem dX9_kindOf_35 : decode cX9_kindOf 35 = .ok (.iload_n 3, 1) := by decide +kernel
theorem dX9_kindOf_36 : decode cX9_kindOf 36 = .ok (.invokevirtual 73, 3) := by decide +kernel
theorem dX9_kindOf_39 : decode cX9_kindOf 39 = .ok (.ifCond .eq 10, 3) := by decide +kernel
theorem dX9_kindOf_42 : decode cX9_kindOf 42 = .ok (.getstatic 66, 3) := by decide +kernel
theorem dX9_kindOf_45 : decode cX9_kindOf 45 = .ok (.iload 4, 2) := by decide +kernel
theorem dX9_kindOf_47 : decode cX9_kindOf 47 = .ok (.aaload, 1) := by decide +kernel
theorem dX9_kindOf_48 : decode cX9_kindOf 48 = .ok (.areturn, 1) := by decide +kernel
theorem dX9_kindOf_49 : decode cX9_kindOf 49 = .ok (.iinc 4 1, 3) := by decide +kernel
theorem dX9_kindOf_52 : decode cX9_kindOf 52 = .ok (.goto (-37), 3) := by decide +kernel
theorem dX9_kindOf_55 : decode cX9_kindOf 55 = .ok (.aload_n 1, 1) := by decide +kernel
theorem dX9_kindOf_56 : decode cX9_kindOf 56 = .ok (.iload_n 2, 1) := by decide +kernel
theorem dX9_kindOf_57 : decode cX9_kindOf 57 = .ok (.invokevirtual 60, 3) := by decide +kernel
theorem dX9_kindOf_60 : decode cX9_kindOf 60 = .ok (.ifCond .eq 15, 3) := by decide +kernel
theorem dX9_kindOf_63 : decode cX9_kindOf 63 = .ok (.iload_n 3, 1) := by decide +kernel
theorem dX9_kindOf_64 : decode cX9_kindOf 64 = .ok (.iload_n 2, 1) := by decide +kernel
theorem dX9_kindOf_65 : decode cX9_kindOf 65 = .ok (.isub, 1) := by decide +kernel
theorem dX9_kindOf_66 : decode cX9_kindOf 66 = .ok (.bipush 8, 2) := by decide +kernel
theorem dX9_kindOf_68 : decode cX9_kindOf 68 = .ok (.if_icmp .gt 7, 3) := by decide +kernel
theorem dX9_kindOf_71 : decode cX9_kindOf 71 = .ok (.getstatic 77, 3) := by decide +kernel
theorem dX9_kindOf_74 : decode cX9_kindOf 74 = .ok (.areturn, 1) := by decide +kernel
theorem dX9_kindOf_75 : decode cX9_kindOf 75 = .ok (.aload_n 1, 1) := by decide +kernel
theorem dX9_kindOf_76 : decode cX9_kindOf 76 = .ok (.iload_n 2, 1) := by decide +kernel
theorem dX9_kindOf_77 : decode cX9_kindOf 77 = .ok (.invokevirtual 63, 3) := by decide +kernel
theorem dX9_kindOf_80 : decode cX9_kindOf 80 = .ok (.ifCond .eq 16, 3) := by decide +kernel
theorem dX9_kindOf_83 : decode cX9_kindOf 83 = .ok (.iload_n 3, 1) := by decide +kernel
theorem dX9_kindOf_84 : decode cX9_kindOf 84 = .ok (.iload_n 2, 1) := by decide +kernel
theorem dX9_kindOf_85 : decode cX9_kindOf 85 = .ok (.isub, 1) := by decide +kernel
theorem dX9_kindOf_86 : decode cX9_kindOf 86 = .ok (.iconst 4, 1) := by decide +kernel
theorem dX9_kindOf_87 : decode cX9_kindOf 87 = .ok (.if_icmp .gt 9, 3) := by decide +kernel
theorem dX9_kindOf_90 : decode cX9_kindOf 90 = .ok (.getstatic 80, 3) := by decide +kernel
theorem dX9_kindOf_93 : decode cX9_kindOf 93 = .ok (.goto 6, 3) := by decide +kernel
theorem dX9_kindOf_96 : decode cX9_kindOf 96 = .ok (.getstatic 44, 3) := by decide +kernel
theorem dX9_kindOf_99 : decode cX9_kindOf 99 = .ok (.areturn, 1) := by decide +kernel
section T
variable {G : GT} {d : Nat} {S : List Value} {h : AH} {P : OC → AH → Prop} {x0 x1 x2 x3 x4 x5 x6 x7 x8 x9 x10 x11 x12 x13 x14 x15 : Option Value}
theorem tX9_kindOf_0 {v : Int32} (r : RQ G mX9_kindOf d 1 [x0, x1, some (.int v), x3, x4] (.int v :: S) (h) P) : RQ G mX9_kindOf d 0 [x0, x1, some (.int v), x3, x4] (S) h P := q_iload_n (M := mX9_kindOf) (pc := 0) dX9_kindOf_0 rfl rfl r
theorem tX9_kindOf_1 {k : Nat} (r : RQ G mX9_kindOf d 2 [x0, some (.ref k), x2, x3, x4] (.ref k :: S) (h) P) : RQ G mX9_kindOf d 1 [x0, some (.ref k), x2, x3, x4] (S) h P := q_aload_n (M := mX9_kindOf) (pc := 1) (r0 := some k) dX9_kindOf_1 rfl rfl r
theorem tX9_kindOf_2 {i : Nat} {vs : List Value} {v : Value} (ha : At h i (.inr (6, vs))) (hv : vs[1]? = some v) (r : RQ G mX9_kindOf d 5 [x0, x1, x2, x3, x4] (v :: S) (h) P) : RQ G mX9_kindOf d 2 [x0, x1, x2, x3, x4] (.ref i :: S) h P := q_getN (M := mX9_kindOf) (pc := 2) (kf := 1) dX9_kindOf_2 (show CL[6]? = some (RX8, TX8, 2) from rfl) inA8 (by decide) rfl v94 ha hv r
theorem tX9_kindOf_5 {x y : Int32} (kt : x < y → RQ G mX9_kindOf d 12 [x0, x1, x2, x3, x4] S h P) (kf : ¬ x < y → RQ G mX9_kindOf d 8 [x0, x1, x2, x3, x4] S h P) : RQ G mX9_kindOf d 5 [x0, x1, x2, x3, x4] (.int y :: .int x :: S) h P := q_icmp_lt (M := mX9_kindOf) (pc := 5) dX9_kindOf_5 (by decide) kt kf
theorem tX9_kindOf_8 (r : RQ G mX9_kindOf d 11 [x0, x1, x2, x3, x4] (.ref (OLD + 41) :: S) (h) P) : RQ G mX9_kindOf d 8 [x0, x1, x2, x3, x4] (S) h P := q_getE (M := mX9_kindOf) (pc := 8) (i := 41) dX9_kindOf_8 (by decide) w977 r
theorem tX9_kindOf_11 {k : Nat} (hP : P (.inl (some (.ref k))) h) : RQ G mX9_kindOf d 11 [x0, x1, x2, x3, x4] ([.ref k]) h P := q_areturn (M := mX9_kindOf) (pc := 11) (r0 := some k) dX9_kindOf_11 rfl hP
theorem tX9_kindOf_12 (r : RQ G mX9_kindOf d 13 [x0, x1, x2, x3, x4] (.int (nI 0) :: S) (h) P) : RQ G mX9_kindOf d 12 [x0, x1, x2, x3, x4] (S) h P := q_iconst (M := mX9_kindOf) (pc := 12) dX9_kindOf_12 (by decide) r
theorem tX9_kindOf_13 {v : Int32} (ho : ok1 x3 = true := by rfl) (r : RQ G mX9_kindOf d 15 [x0, x1, x2, x3, some (.int v)] (S) (h) P) : RQ G mX9_kindOf d 13 [x0, x1, x2, x3, x4] (.int v :: S) h P := q_istore (M := mX9_kindOf) (pc := 13) dX9_kindOf_13 (Nat.le_of_ble_eq_true rfl) ho r
theorem tX9_kindOf_15 {v : Int32} (r : RQ G mX9_kindOf d 17 [x0, x1, x2, x3, some (.int v)] (.int v :: S) (h) P) : RQ G mX9_kindOf d 15 [x0, x1, x2, x3, some (.int v)] (S) h P := q_iload (M := mX9_kindOf) (pc := 15) dX9_kindOf_15 rfl r
theorem tX9_kindOf_21 {x y : Int32} (kt : y ≤ x → RQ G mX9_kindOf d 55 [x0, x1, x2, x3, x4] S h P) (kf : ¬ y ≤ x → RQ G mX9_kindOf d 24 [x0, x1, x2, x3, x4] S h P) : RQ G mX9_kindOf d 21 [x0, x1, x2, x3, x4] (.int y :: .int x :: S) h P := q_icmp_ge (M := mX9_kindOf) (pc := 21) dX9_kindOf_21 (by decide) kt kf
theorem tX9_kindOf_24 {k : Nat} (r : RQ G mX9_kindOf d 25 [x0, some (.ref k), x2, x3, x4] (.ref k :: S) (h) P) : RQ G mX9_kindOf d 24 [x0, some (.ref k), x2, x3, x4] (S) h P := q_aload_n (M := mX9_kindOf) (pc := 24) (r0 := some k) dX9_kindOf_24 rfl rfl r
theorem tX9_kindOf_28 {v : Int32} (r : RQ G mX9_kindOf d 30 [x0, x1, x2, x3, some (.int v)] (.int v :: S) (h) P) : RQ G mX9_kindOf d 28 [x0, x1, x2, x3, some (.int v)] (S) h P := q_iload (M := mX9_kindOf) (pc := 28) dX9_kindOf_28 rfl r
theorem tX9_kindOf_34 {v : Int32} (r : RQ G mX9_kindOf d 35 [x0, x1, some (.int v), x3, x4] (.int v :: S) (h) P) : RQ G mX9_kindOf d 34 [x0, x1, some (.int v), x3, x4] (S) h P := q_iload_n (M := mX9_kindOf) (pc := 34) dX9_kindOf_34 rfl rfl r
theorem tX9_kindOf_35 {v : Int32} (r : RQ G mX9_kindOf d 36 [x0, x1, x2, some (.int v), x4] (.int v :: S) (h) P) : RQ G mX9_kindOf d 35 [x0, x1, x2, some (.int v), x4] (S) h P := q_iload_n (M := mX9_kindOf) (pc := 35) dX9_kindOf_35 rfl rfl r
theorem tX9_kindOf_36 {b d2 : Nat} {vs : List Value} {a0 : Nat} {a1 : Int32} {a2 : Int32} {Q : Int32 → AH → Prop} (hd : d2 + 1 ≤ d) (ha : At h b (.inr (6, vs))) (call : RQ G mX8_reads d2 0 [some (.ref b), some (.ref a0), some (.int a1), some (.int a2), none] [] h (Ri Q)) (k : ∀ x h1, Q x h1 → RQ G mX9_kindOf d 39 [x0, x1, x2, x3, x4] (.int x :: S) h1 P) (hst : (S.map fun v => v.category).sum ≤ 8 := by exact Nat.le_of_ble_eq_true rfl)  : RQ G mX9_kindOf d 36 [x0, x1, x2, x3, x4] (.int a2 :: .int a1 :: .ref a0 :: .ref b :: S) h P := q_callV (M := mX9_kindOf) (pc := 36) (M2 := mX8_reads) (As := [.ref a0, .int a1, .int a2]) (n := 3) dX9_kindOf_36 rfl ⟨by decide, by decide, by decide, rfl⟩ rfl w980 w981 w982 w42 w983 (show CL[6]? = some (RX8, TX8, 2) from rfl) hd (by decide) (Nat.le_of_ble_eq_true rfl) rfl ha hst call (callk_i k)
theorem tX9_kindOf_39 {x : Int32} (kt : x = 0 → RQ G mX9_kindOf d 49 [x0, x1, x2, x3, x4] S h P) (kf : ¬ x = 0 → RQ G mX9_kindOf d 42 [x0, x1, x2, x3, x4] S h P) : RQ G mX9_kindOf d 39 [x0, x1, x2, x3, x4] (.int x :: S) h P := q_if_eq (M := mX9_kindOf) (pc := 39) dX9_kindOf_39 (by decide) kt kf
theorem tX9_kindOf_45 {v : Int32} (r : RQ G mX9_kindOf d 47 [x0, x1, x2, x3, some (.int v)] (.int v :: S) (h) P) : RQ G mX9_kindOf d 45 [x0, x1, x2, x3, some (.int v)] (S) h P := q_iload (M := mX9_kindOf) (pc := 45) dX9_kindOf_45 rfl r
theorem tX9_kindOf_48 {k : Nat} (hP : P (.inl (some (.ref k))) h) : RQ G mX9_kindOf d 48 [x0, x1, x2, x3, x4] ([.ref k]) h P := q_areturn (M := mX9_kindOf) (pc := 48) (r0 := some k) dX9_kindOf_48 rfl hP
theorem tX9_kindOf_49 {v : Int32} (ho : ok1 x3 = true := by rfl) (r : RQ G mX9_kindOf d 52 [x0, x1, x2, x3, some (.int (v + (nI 1)))] (S) (h) P) : RQ G mX9_kindOf d 49 [x0, x1, x2, x3, some (.int v)] (S) h P := q_iinc (M := mX9_kindOf) (pc := 49) dX9_kindOf_49 rfl (congrArg (v + ·) (show Int32.ofInt (1) = (nI 1) by decide)) (Nat.le_of_ble_eq_true rfl) ho r
theorem tX9_kindOf_52 (r : RQ G mX9_kindOf d 15 [x0, x1, x2, x3, x4] S h P) : RQ G mX9_kindOf d 52 [x0, x1, x2, x3, x4] (S) h P := q_goto (M := mX9_kindOf) (pc := 52) dX9_kindOf_52 (by decide) r
theorem tX9_kindOf_55 {k : Nat} (r : RQ G mX9_kindOf d 56 [x0, some (.ref k), x2, x3, x4] (.ref k :: S) (h) P) : RQ G mX9_kindOf d 55 [x0, some (.ref k), x2, x3, x4] (S) h P := q_aload_n (M := mX9_kindOf) (pc := 55) (r0 := some k) dX9_kindOf_55 rfl rfl r
theorem tX9_kindOf_56 {v : Int32} (r : RQ G mX9_kindOf d 57 [x0, x1, some (.int v), x3, x4] (.int v :: S) (h) P) : RQ G mX9_kindOf d 56 [x0, x1, some (.int v), x3, x4] (S) h P := q_iload_n (M := mX9_kindOf) (pc := 56) dX9_kindOf_56 rfl rfl r
theorem tX9_kindOf_57 {b d2 : Nat} {vs : List Value} {a0 : Int32} {Q : Int32 → AH → Prop} (hd : d2 + 1 ≤ d) (ha : At h b (.inr (6, vs))) (call : RQ G mX8_isLetter d2 0 [some (.ref b), some (.int a0)] [] h (Ri Q)) (k : ∀ x h1, Q x h1 → RQ G mX9_kindOf d 60 [x0, x1, x2, x3, x4] (.int x :: S) h1 P) (hst : (S.map fun v => v.category).sum ≤ 8 := by exact Nat.le_of_ble_eq_true rfl)  : RQ G mX9_kindOf d 57 [x0, x1, x2, x3, x4] (.int a0 :: .ref b :: S) h P := q_callV (M := mX9_kindOf) (pc := 57) (M2 := mX8_isLetter) (As := [.int a0]) (n := 1) dX9_kindOf_57 rfl ⟨by decide, by decide, by decide, rfl⟩ rfl w965 w966 w967 w42 w968 (show CL[6]? = some (RX8, TX8, 2) from rfl) hd (by decide) (Nat.le_of_ble_eq_true rfl) rfl ha hst call (callk_i k)
theorem tX9_kindOf_60 {x : Int32} (kt : x = 0 → RQ G mX9_kindOf d 75 [x0, x1, x2, x3, x4] S h P) (kf : ¬ x = 0 → RQ G mX9_kindOf d 63 [x0, x1, x2, x3, x4] S h P) : RQ G mX9_kindOf d 60 [x0, x1, x2, x3, x4] (.int x :: S) h P := q_if_eq (M := mX9_kindOf) (pc := 60) dX9_kindOf_60 (by decide) kt kf
theorem tX9_kindOf_63 {v : Int32} (r : RQ G mX9_kindOf d 64 [x0, x1, x2, some (.int v), x4] (.int v :: S) (h) P) : RQ G mX9_kindOf d 63 [x0, x1, x2, some (.int v), x4] (S) h P := q_iload_n (M := mX9_kindOf) (pc := 63) dX9_kindOf_63 rfl rfl r
theorem tX9_kindOf_64 {v : Int32} (r : RQ G mX9_kindOf d 65 [x0, x1, some (.int v), x3, x4] (.int v :: S) (h) P) : RQ G mX9_kindOf d 64 [x0, x1, some (.int v), x3, x4] (S) h P := q_iload_n (M := mX9_kindOf) (pc := 64) dX9_kindOf_64 rfl rfl r
theorem tX9_kindOf_65 {x y : Int32} (r : RQ G mX9_kindOf d 66 [x0, x1, x2, x3, x4] (.int (x - y) :: S) (h) P) : RQ G mX9_kindOf d 65 [x0, x1, x2, x3, x4] (.int y :: .int x :: S) h P := q_isub (M := mX9_kindOf) (pc := 65) dX9_kindOf_65 r
theorem tX9_kindOf_66 (r : RQ G mX9_kindOf d 68 [x0, x1, x2, x3, x4] (.int (nI 8) :: S) (h) P) : RQ G mX9_kindOf d 66 [x0, x1, x2, x3, x4] (S) h P := q_bipush (M := mX9_kindOf) (pc := 66) dX9_kindOf_66 (by decide) r
theorem tX9_kindOf_68 {x y : Int32} (kt : y < x → RQ G mX9_kindOf d 75 [x0, x1, x2, x3, x4] S h P) (kf : ¬ y < x → RQ G mX9_kindOf d 71 [x0, x1, x2, x3, x4] S h P) : RQ G mX9_kindOf d 68 [x0, x1, x2, x3, x4] (.int y :: .int x :: S) h P := q_icmp_gt (M := mX9_kindOf) (pc := 68) dX9_kindOf_68 (by decide) kt kf
theorem tX9_kindOf_71 (r : RQ G mX9_kindOf d 74 [x0, x1, x2, x3, x4] (.ref (OLD + 39) :: S) (h) P) : RQ G mX9_kindOf d 71 [x0, x1, x2, x3, x4] (S) h P := q_getE (M := mX9_kindOf) (pc := 71) (i := 39) dX9_kindOf_71 (by decide) w986 r
theorem tX9_kindOf_74 {k : Nat} (hP : P (.inl (some (.ref k))) h) : RQ G mX9_kindOf d 74 [x0, x1, x2, x3, x4] ([.ref k]) h P := q_areturn (M := mX9_kindOf) (pc := 74) (r0 := some k) dX9_kindOf_74 rfl hP
theorem tX9_kindOf_75 {k : Nat} (r : RQ G mX9_kindOf d 76 [x0, some (.ref k), x2, x3, x4] (.ref k :: S) (h) P) : RQ G mX9_kindOf d 75 [x0, some (.ref k), x2, x3, x4] (S) h P := q_aload_n (M := mX9_kindOf) (pc := 75) (r0 := some k) dX9_kindOf_75 rfl rfl r
theorem tX9_kindOf_76 {v : Int32} (r : RQ G mX9_kindOf d 77 [x0, x1, some (.int v), x3, x4] (.int v :: S) (h) P) : RQ G mX9_kindOf d 76 [x0, x1, some (.int v), x3, x4] (S) h P := q_iload_n (M := mX9_kindOf) (pc := 76) dX9_kindOf_76 rfl rfl r
theorem tX9_kindOf_77 {b d2 : Nat} {vs : List Value} {a0 : Int32} {Q : Int32 → AH → Prop} (hd : d2 + 1 ≤ d) (ha : At h b (.inr (6, vs))) (call : RQ G mX8_isDigit d2 0 [some (.ref b), some (.int a0)] [] h (Ri Q)) (k : ∀ x h1, Q x h1 → RQ G mX9_kindOf d 80 [x0, x1, x2, x3, x4] (.int x :: S) h1 P) (hst : (S.map fun v => v.category).sum ≤ 8 := by exact Nat.le_of_ble_eq_true rfl)  : RQ G mX9_kindOf d 77 [x0, x1, x2, x3, x4] (.int a0 :: .ref b :: S) h P := q_callV (M := mX9_kindOf) (pc := 77) (M2 := mX8_isDigit) (As := [.int a0]) (n := 1) dX9_kindOf_77 rfl ⟨by decide, by decide, by decide, rfl⟩ rfl w969 w970 w971 w42 w972 (show CL[6]? = some (RX8, TX8, 2) from rfl) hd (by decide) (Nat.le_of_ble_eq_true rfl) rfl ha hst call (callk_i k)
theorem tX9_kindOf_80 {x : Int32} (kt : x = 0 → RQ G mX9_kindOf d 96 [x0, x1, x2, x3, x4] S h P) (kf : ¬ x = 0 → RQ G mX9_kindOf d 83 [x0, x1, x2, x3, x4] S h P) : RQ G mX9_kindOf d 80 [x0, x1, x2, x3, x4] (.int x :: S) h P := q_if_eq (M := mX9_kindOf) (pc := 80) dX9_kindOf_80 (by decide) kt kf
theorem tX9_kindOf_83 {v : Int32} (r : RQ G mX9_kindOf d 84 [x0, x1, x2, some (.int v), x4] (.int v :: S) (h) P) : RQ G mX9_kindOf d 83 [x0, x1, x2, some (.int v), x4] (S) h P := q_iload_n (M := mX9_kindOf) (pc := 83) dX9_kindOf_83 rfl rfl r
theorem tX9_kindOf_84 {v : Int32} (r : RQ G mX9_kindOf d 85 [x0, x1, some (.int v), x3, x4] (.int v :: S) (h) P) : RQ G mX9_kindOf d 84 [x0, x1, some (.int v), x3, x4] (S) h P := q_iload_n (M := mX9_kindOf) (pc := 84) dX9_kindOf_84 rfl rfl r
theorem tX9_kindOf_85 {x y : Int32} (r : RQ G mX9_kindOf d 86 [x0, x1, x2, x3, x4] (.int (x - y) :: S) (h) P) : RQ G mX9_kindOf d 85 [x0, x1, x2, x3, x4] (.int y :: .int x :: S) h P := q_isub (M := mX9_kindOf) (pc := 85) dX9_kindOf_85 r
theorem tX9_kindOf_86 (r : RQ G mX9_kindOf d 87 [x0, x1, x2, x3, x4] (.int (nI 4) :: S) (h) P) : RQ G mX9_kindOf d 86 [x0, x1, x2, x3, x4] (S) h P := q_iconst (M := mX9_kindOf) (pc := 86) dX9_kindOf_86 (by decide) r
theorem tX9_kindOf_87 {x y : Int32} (kt : y < x → RQ G mX9_kindOf d 96 [x0, x1, x2, x3, x4] S h P) (kf : ¬ y < x → RQ G mX9_kindOf d 90 [x0, x1, x2, x3, x4] S h P) : RQ G mX9_kindOf d 87 [x0, x1, x2, x3, x4] (.int y :: .int x :: S) h P := q_icmp_gt (M := mX9_kindOf) (pc := 87) dX9_kindOf_87 (by decide) kt kf
theorem tX9_kindOf_90 (r : RQ G mX9_kindOf d 93 [x0, x1, x2, x3, x4] (.ref (OLD + 40) :: S) (h) P) : RQ G mX9_kindOf d 90 [x0, x1, x2, x3, x4] (S) h P := q_getE (M := mX9_kindOf) (pc := 90) (i := 40) dX9_kindOf_90 (by decide) w988 r
theorem tX9_kindOf_93 (r : RQ G mX9_kindOf d 99 [x0, x1, x2, x3, x4] S h P) : RQ G mX9_kindOf d 93 [x0, x1, x2, x3, x4] (S) h P := q_goto (M := mX9_kindOf) (pc := 93) dX9_kindOf_93 (by decide) r
theorem tX9_kindOf_96 (r : RQ G mX9_kindOf d 99 [x0, x1, x2, x3, x4] (.ref (OLD + 42) :: S) (h) P) : RQ G mX9_kindOf d 96 [x0, x1, x2, x3, x4] (S) h P := q_getE (M := mX9_kindOf) (pc := 96) (i := 42) dX9_kindOf_96 (by decide) w990 r
theorem tX9_kindOf_99 {k : Nat} (hP : P (.inl (some (.ref k))) h) : RQ G mX9_kindOf d 99 [x0, x1, x2, x3, x4] ([.ref k]) h P := q_areturn (M := mX9_kindOf) (pc := 99) (r0 := some k) dX9_kindOf_99 rfl hP
end T
theorem dX9_valueOf_0 : decode cX9_valueOf 0 = .ok (.lconst 0, 1) := by decide +kernel
theorem dX9_valueOf_1 : decode cX9_valueOf 1 = .ok (.lstore 5, 2) := by decide +kernel
theorem dX9_valueOf_3 : decode cX9_valueOf 3 = .ok (.aload_n 2, 1) := by decide +kernel
theorem dX9_valueOf_4 : decode cX9_valueOf 4 = .ok (.getstatic 77, 3) := by decide +kernel
theorem dX9_valueOf_7 : decode cX9_valueOf 7 = .ok (.if_acmp .ne 44, 3) := by decide +kernel
theorem dX9_valueOf_10 : decode cX9_valueOf 10 = .ok (.iload_n 3, 1) := by decide +kernel
theorem dX9_valueOf_11 : decode cX9_valueOf 11 = .ok (.istore 7, 2) := by decide +kernel
theorem dX9_valueOf_13 : decode cX9_valueOf 13 = .ok (.iload 7, 2) := by decide +kernel
theorem dX9_valueOf_15 : decode cX9_valueOf 15 = .ok (.iload 4, 2) := by decide +kernel
theorem dX9_valueOf_17 : decode cX9_valueOf 17 = .ok (.if_icmp .ge 31, 3) := by decide +kernel
theorem dX9_valueOf_20 : decode cX9_valueOf 20 = .ok (.lload 5, 2) := by decide +kernel
theorem dX9_valueOf_22 : decode cX9_valueOf 22 = .ok (.ldc2_w 83, 3) := by decide +kernel
theorem dX9_valueOf_25 : decode cX9_valueOf 25 = .ok (.lmul, 1) := by decide +kernel
theorem dX9_valueOf_26 : decode cX9_valueOf 26 = .ok (.aload_n 1, 1) := by decide +kernel
theorem dX9_valueOf_27 : decode cX9_valueOf 27 = .ok (.iload 7, 2) := by decide +kernel
theorem dX9_valueOf_29 : decode cX9_valueOf 29 = .ok (.invokevirtual 85, 3) := by decide +kernel
theorem dX9_valueOf_32 : decode cX9_valueOf 32 = .ok (.i2l, 1) := by decide +kernel
theorem dX9_valueOf_33 : decode cX9_valueOf 33 = .ok (.ladd, 1) := by decide +kernel
theorem dX9_valueOf_34 : decode cX9_valueOf 34 = .ok (.ldc2_w 89, 3) := by decide +kernel
theorem dX9_valueOf_37 : decode cX9_valueOf 37 = .ok (.lsub, 1) := by decide +kernel
theorem dX9_valueOf_38 : decode cX9_valueOf 38 = .ok (.lconst 1, 1) := by decide +kernel
theorem dX9_valueOf_39 : decode cX9_valueOf 39 = .ok (.ladd, 1) := by decide +kernel
theorem dX9_valueOf_40 : decode cX9_valueOf 40 = .ok (.lstore 5, 2) := by decide +kernel
theorem dX9_valueOf_42 : decode cX9_valueOf 42 = .ok (.iinc 7 1, 3) := by decide +kernel
theorem dX9_valueOf_45 : decode cX9_valueOf 45 = .ok (.goto (-32), 3) := by decide +kernel
theorem dX9_valueOf_48 : decode cX9_valueOf 48 = .ok (.goto 46, 3) := by decide +kernel
theorem dX9_valueOf_51 : decode cX9_valueOf 51 = .ok (.aload_n 2, 1) := by decide +kernel
theorem dX9_valueOf_52 : decode cX9_valueOf 52 = .ok (.getstatic 80, 3) := by decide +kernel
theorem dX9_valueOf_55 : decode cX9_valueOf 55 = .ok (.if_acmp .ne 39, 3) := by decide +kernel
theorem dX9_valueOf_58 : decode cX9_valueOf 58 = .ok (.iload_n 3, 1) := by decide +kernel
theorem dX9_valueOf_59 : decode cX9_valueOf 59 = .ok (.istore 7, 2) := by decide +kernel
theorem dX9_valueOf_61 : decode cX9_valueOf 61 = .ok (.iload 7, 2) := by decide +kernel
theorem dX9_valueOf_63 : decode cX9_valueOf 63 = .ok (.iload 4, 2) := by decide +kernel
theorem dX9_valueOf_65 : decode cX9_valueOf 65 = .ok (.if_icmp .ge 29, 3) := by decide +kernel
theorem dX9_valueOf_68 : decode cX9_valueOf 68 = .ok (.lload 5, 2) := by decide +kernel
theorem dX9_valueOf_70 : decode cX9_valueOf 70 = .ok (.ldc2_w 91, 3) := by decide +kernel
theorem dX9_valueOf_73 : decode cX9_valueOf 73 = .ok (.lmul, 1) := by decide +kernel
theorem dX9_valueOf_74 : decode cX9_valueOf 74 = .ok (.aload_n 1, 1) := by decide +kernel
theorem dX9_valueOf_75 : decode cX9_valueOf 75 = .ok (.iload 7, 2) := by decide +kernel
theorem dX9_valueOf_77 : decode cX9_valueOf 77 = .ok (.invokevirtual 85, 3) := by decide +kernel
theorem dX9_valueOf_80 : decode cX9_valueOf 80 = .ok (.i2l, 1) := by decide +kernel
theorem dX9_valueOf_81 : decode cX9_valueOf 81 = .ok (.ladd, 1) := by decide +kernel
theorem dX9_valueOf_82 : decode cX9_valueOf 82 = .ok (.ldc2_w 93, 3) := by decide +kernel
theorem dX9_valueOf_85 : decode cX9_valueOf 85 = .ok (.lsub, 1) := by decide +kernel
theorem dX9_valueOf_86 : decode cX9_valueOf 86 = .ok (.lstore 5, 2) := by decide +kernel
theorem dX9_valueOf_88 : decode cX9_valueOf 88 = .ok (.iinc 7 1, 3) := by decide +kernel
theorem dX9_valueOf_91 : decode cX9_valueOf 91 = .ok (.goto (-30), 3) := by decide +kernel
theorem dX9_valueOf_94 : decode cX9_valueOf 94 = .ok (.lload 5, 2) := by decide +kernel
theorem dX9_valueOf_96 : decode cX9_valueOf 96 = .ok (.lreturn, 1) := by decide +kernel
section T
variable {G : GT} {d : Nat} {S : List Value} {h : AH} {P : OC → AH → Prop} {x0 x1 x2 x3 x4 x5 x6 x7 x8 x9 x10 x11 x12 x13 x14 x15 : Option Value}
theorem tX9_valueOf_0 (r : RQ G mX9_valueOf d 1 [x0, x1, x2, x3, x4, x5, x6, x7] (.long (lN 0) :: S) (h) P) : RQ G mX9_valueOf d 0 [x0, x1, x2, x3, x4, x5, x6, x7] (S) h P := q_lconst (M := mX9_valueOf) (pc := 0) dX9_valueOf_0 (by decide) r
theorem tX9_valueOf_1 {v : Int64} (ho : ok1 x4 = true := by rfl) (r : RQ G mX9_valueOf d 3 [x0, x1, x2, x3, x4, some (.long v), none, x7] (S) (h) P) : RQ G mX9_valueOf d 1 [x0, x1, x2, x3, x4, x5, x6, x7] (.long v :: S) h P := q_lstore (M := mX9_valueOf) (pc := 1) dX9_valueOf_1 (Nat.le_of_ble_eq_true rfl) ho r
theorem tX9_valueOf_3 {k : Nat} (r : RQ G mX9_valueOf d 4 [x0, x1, some (.ref k), x3, x4, x5, x6, x7] (.ref k :: S) (h) P) : RQ G mX9_valueOf d 3 [x0, x1, some (.ref k), x3, x4, x5, x6, x7] (S) h P := q_aload_n (M := mX9_valueOf) (pc := 3) (r0 := some k) dX9_valueOf_3 rfl rfl r
theorem tX9_valueOf_4 (r : RQ G mX9_valueOf d 7 [x0, x1, x2, x3, x4, x5, x6, x7] (.ref (OLD + 39) :: S) (h) P) : RQ G mX9_valueOf d 4 [x0, x1, x2, x3, x4, x5, x6, x7] (S) h P := q_getE (M := mX9_valueOf) (pc := 4) (i := 39) dX9_valueOf_4 (by decide) w986 r
theorem tX9_valueOf_7 {i j : Nat} (hi : i < 43) (hj : j < 43) (kt : ¬ i = j → RQ G mX9_valueOf d 51 [x0, x1, x2, x3, x4, x5, x6, x7] S h P) (kf : i = j → RQ G mX9_valueOf d 10 [x0, x1, x2, x3, x4, x5, x6, x7] S h P) : RQ G mX9_valueOf d 7 [x0, x1, x2, x3, x4, x5, x6, x7] (.ref (OLD + j) :: .ref (OLD + i) :: S) h P := q_acmp_ne (M := mX9_valueOf) (pc := 7) dX9_valueOf_7 (by decide) hi hj kt kf
theorem tX9_valueOf_10 {v : Int32} (r : RQ G mX9_valueOf d 11 [x0, x1, x2, some (.int v), x4, x5, x6, x7] (.int v :: S) (h) P) : RQ G mX9_valueOf d 10 [x0, x1, x2, some (.int v), x4, x5, x6, x7] (S) h P := q_iload_n (M := mX9_valueOf) (pc := 10) dX9_valueOf_10 rfl rfl r
theorem tX9_valueOf_11 {v : Int32} (ho : ok1 x6 = true := by rfl) (r : RQ G mX9_valueOf d 13 [x0, x1, x2, x3, x4, x5, x6, some (.int v)] (S) (h) P) : RQ G mX9_valueOf d 11 [x0, x1, x2, x3, x4, x5, x6, x7] (.int v :: S) h P := q_istore (M := mX9_valueOf) (pc := 11) dX9_valueOf_11 (Nat.le_of_ble_eq_true rfl) ho r
theorem tX9_valueOf_13 {v : Int32} (r : RQ G mX9_valueOf d 15 [x0, x1, x2, x3, x4, x5, x6, some (.int v)] (.int v :: S) (h) P) : RQ G mX9_valueOf d 13 [x0, x1, x2, x3, x4, x5, x6, some (.int v)] (S) h P := q_iload (M := mX9_valueOf) (pc := 13) dX9_valueOf_13 rfl r
theorem tX9_valueOf_15 {v : Int32} (r : RQ G mX9_valueOf d 17 [x0, x1, x2, x3, some (.int v), x5, x6, x7] (.int v :: S) (h) P) : RQ G mX9_valueOf d 15 [x0, x1, x2, x3, some (.int v), x5, x6, x7] (S) h P := q_iload (M := mX9_valueOf) (pc := 15) dX9_valueOf_15 rfl r
theorem tX9_valueOf_17 {x y : Int32} (kt : y ≤ x → RQ G mX9_valueOf d 48 [x0, x1, x2, x3, x4, x5, x6, x7] S h P) (kf : ¬ y ≤ x → RQ G mX9_valueOf d 20 [x0, x1, x2, x3, x4, x5, x6, x7] S h P) : RQ G mX9_valueOf d 17 [x0, x1, x2, x3, x4, x5, x6, x7] (.int y :: .int x :: S) h P := q_icmp_ge (M := mX9_valueOf) (pc := 17) dX9_valueOf_17 (by decide) kt kf
theorem tX9_valueOf_20 {v : Int64} (r : RQ G mX9_valueOf d 22 [x0, x1, x2, x3, x4, some (.long v), x6, x7] (.long v :: S) (h) P) : RQ G mX9_valueOf d 20 [x0, x1, x2, x3, x4, some (.long v), x6, x7] (S) h P := q_lload (M := mX9_valueOf) (pc := 20) dX9_valueOf_20 rfl r
theorem tX9_valueOf_22 (r : RQ G mX9_valueOf d 25 [x0, x1, x2, x3, x4, x5, x6, x7] (.long (lN 32) :: S) (h) P) : RQ G mX9_valueOf d 22 [x0, x1, x2, x3, x4, x5, x6, x7] (S) h P := q_ldc2 (M := mX9_valueOf) (pc := 22) (v := lN 32) dX9_valueOf_22 w995 r
theorem tX9_valueOf_25 {x y : Int64} (r : RQ G mX9_valueOf d 26 [x0, x1, x2, x3, x4, x5, x6, x7] (.long (x * y) :: S) (h) P) : RQ G mX9_valueOf d 25 [x0, x1, x2, x3, x4, x5, x6, x7] (.long y :: .long x :: S) h P := q_lmul (M := mX9_valueOf) (pc := 25) dX9_valueOf_25 r
theorem tX9_valueOf_26 {k : Nat} (r : RQ G mX9_valueOf d 27 [x0, some (.ref k), x2, x3, x4, x5, x6, x7] (.ref k :: S) (h) P) : RQ G mX9_valueOf d 26 [x0, some (.ref k), x2, x3, x4, x5, x6, x7] (S) h P := q_aload_n (M := mX9_valueOf) (pc := 26) (r0 := some k) dX9_valueOf_26 rfl rfl r
theorem tX9_valueOf_27 {v : Int32} (r : RQ G mX9_valueOf d 29 [x0, x1, x2, x3, x4, x5, x6, some (.int v)] (.int v :: S) (h) P) : RQ G mX9_valueOf d 27 [x0, x1, x2, x3, x4, x5, x6, some (.int v)] (S) h P := q_iload (M := mX9_valueOf) (pc := 27) dX9_valueOf_27 rfl r
theorem tX9_valueOf_29 {b d2 : Nat} {vs : List Value} {a0 : Int32} {Q : Int32 → AH → Prop} (hd : d2 + 1 ≤ d) (ha : At h b (.inr (6, vs))) (call : RQ G mX8_at d2 0 [some (.ref b), some (.int a0)] [] h (Ri Q)) (k : ∀ x h1, Q x h1 → RQ G mX9_valueOf d 32 [x0, x1, x2, x3, x4, x5, x6, x7] (.int x :: S) h1 P) (hst : (S.map fun v => v.category).sum ≤ 8 := by exact Nat.le_of_ble_eq_true rfl)  : RQ G mX9_valueOf d 29 [x0, x1, x2, x3, x4, x5, x6, x7] (.int a0 :: .ref b :: S) h P := q_callV (M := mX9_valueOf) (pc := 29) (M2 := mX8_at) (As := [.int a0]) (n := 1) dX9_valueOf_29 rfl ⟨by decide, by decide, by decide, rfl⟩ rfl w996 w958 w959 w42 w960 (show CL[6]? = some (RX8, TX8, 2) from rfl) hd (by decide) (Nat.le_of_ble_eq_true rfl) rfl ha hst call (callk_i k)
theorem tX9_valueOf_32 {x : Int32} (r : RQ G mX9_valueOf d 33 [x0, x1, x2, x3, x4, x5, x6, x7] (.long x.toInt64 :: S) (h) P) : RQ G mX9_valueOf d 32 [x0, x1, x2, x3, x4, x5, x6, x7] (.int x :: S) h P := q_i2l (M := mX9_valueOf) (pc := 32) dX9_valueOf_32 r
theorem tX9_valueOf_33 {x y : Int64} (r : RQ G mX9_valueOf d 34 [x0, x1, x2, x3, x4, x5, x6, x7] (.long (x + y) :: S) (h) P) : RQ G mX9_valueOf d 33 [x0, x1, x2, x3, x4, x5, x6, x7] (.long y :: .long x :: S) h P := q_ladd (M := mX9_valueOf) (pc := 33) dX9_valueOf_33 r
theorem tX9_valueOf_34 (r : RQ G mX9_valueOf d 37 [x0, x1, x2, x3, x4, x5, x6, x7] (.long (lN 97) :: S) (h) P) : RQ G mX9_valueOf d 34 [x0, x1, x2, x3, x4, x5, x6, x7] (S) h P := q_ldc2 (M := mX9_valueOf) (pc := 34) (v := lN 97) dX9_valueOf_34 w997 r
theorem tX9_valueOf_37 {x y : Int64} (r : RQ G mX9_valueOf d 38 [x0, x1, x2, x3, x4, x5, x6, x7] (.long (x - y) :: S) (h) P) : RQ G mX9_valueOf d 37 [x0, x1, x2, x3, x4, x5, x6, x7] (.long y :: .long x :: S) h P := q_lsub (M := mX9_valueOf) (pc := 37) dX9_valueOf_37 r
theorem tX9_valueOf_38 (r : RQ G mX9_valueOf d 39 [x0, x1, x2, x3, x4, x5, x6, x7] (.long (lN 1) :: S) (h) P) : RQ G mX9_valueOf d 38 [x0, x1, x2, x3, x4, x5, x6, x7] (S) h P := q_lconst (M := mX9_valueOf) (pc := 38) dX9_valueOf_38 (by decide) r
theorem tX9_valueOf_39 {x y : Int64} (r : RQ G mX9_valueOf d 40 [x0, x1, x2, x3, x4, x5, x6, x7] (.long (x + y) :: S) (h) P) : RQ G mX9_valueOf d 39 [x0, x1, x2, x3, x4, x5, x6, x7] (.long y :: .long x :: S) h P := q_ladd (M := mX9_valueOf) (pc := 39) dX9_valueOf_39 r
theorem tX9_valueOf_40 {v : Int64} (ho : ok1 x4 = true := by rfl) (r : RQ G mX9_valueOf d 42 [x0, x1, x2, x3, x4, some (.long v), none, x7] (S) (h) P) : RQ G mX9_valueOf d 40 [x0, x1, x2, x3, x4, x5, x6, x7] (.long v :: S) h P := q_lstore (M := mX9_valueOf) (pc := 40) dX9_valueOf_40 (Nat.le_of_ble_eq_true rfl) ho r
theorem tX9_valueOf_42 {v : Int32} (ho : ok1 x6 = true := by rfl) (r : RQ G mX9_valueOf d 45 [x0, x1, x2, x3, x4, x5, x6, some (.int (v + (nI 1)))] (S) (h) P) : RQ G mX9_valueOf d 42 [x0, x1, x2, x3, x4, x5, x6, some (.int v)] (S) h P := q_iinc (M := mX9_valueOf) (pc := 42) dX9_valueOf_42 rfl (congrArg (v + ·) (show Int32.ofInt (1) = (nI 1) by decide)) (Nat.le_of_ble_eq_true rfl) ho r
theorem tX9_valueOf_45 (r : RQ G mX9_valueOf d 13 [x0, x1, x2, x3, x4, x5, x6, x7] S h P) : RQ G mX9_valueOf d 45 [x0, x1, x2, x3, x4, x5, x6, x7] (S) h P := q_goto (M := mX9_valueOf) (pc := 45) dX9_valueOf_45 (by decide) r
theorem tX9_valueOf_48 (r : RQ G mX9_valueOf d 94 [x0, x1, x2, x3, x4, x5, x6, x7] S h P) : RQ G mX9_valueOf d 48 [x0, x1, x2, x3, x4, x5, x6, x7] (S) h P := q_goto (M := mX9_valueOf) (pc := 48) dX9_valueOf_48 (by decide) r
theorem tX9_valueOf_51 {k : Nat} (r : RQ G mX9_valueOf d 52 [x0, x1, some (.ref k), x3, x4, x5, x6, x7] (.ref k :: S) (h) P) : RQ G mX9_valueOf d 51 [x0, x1, some (.ref k), x3, x4, x5, x6, x7] (S) h P := q_aload_n (M := mX9_valueOf) (pc := 51) (r0 := some k) dX9_valueOf_51 rfl rfl r
theorem tX9_valueOf_52 (r : RQ G mX9_valueOf d 55 [x0, x1, x2, x3, x4, x5, x6, x7] (.ref (OLD + 40) :: S) (h) P) : RQ G mX9_valueOf d 52 [x0, x1, x2, x3, x4, x5, x6, x7] (S) h P := q_getE (M := mX9_valueOf) (pc := 52) (i := 40) dX9_valueOf_52 (by decide) w988 r
theorem tX9_valueOf_55 {i j : Nat} (hi : i < 43) (hj : j < 43) (kt : ¬ i = j → RQ G mX9_valueOf d 94 [x0, x1, x2, x3, x4, x5, x6, x7] S h P) (kf : i = j → RQ G mX9_valueOf d 58 [x0, x1, x2, x3, x4, x5, x6, x7] S h P) : RQ G mX9_valueOf d 55 [x0, x1, x2, x3, x4, x5, x6, x7] (.ref (OLD + j) :: .ref (OLD + i) :: S) h P := q_acmp_ne (M := mX9_valueOf) (pc := 55) dX9_valueOf_55 (by decide) hi hj kt kf
theorem tX9_valueOf_58 {v : Int32} (r : RQ G mX9_valueOf d 59 [x0, x1, x2, some (.int v), x4, x5, x6, x7] (.int v :: S) (h) P) : RQ G mX9_valueOf d 58 [x0, x1, x2, some (.int v), x4, x5, x6, x7] (S) h P := q_iload_n (M := mX9_valueOf) (pc := 58) dX9_valueOf_58 rfl rfl r
theorem tX9_valueOf_59 {v : Int32} (ho : ok1 x6 = true := by rfl) (r : RQ G mX9_valueOf d 61 [x0, x1, x2, x3, x4, x5, x6, some (.int v)] (S) (h) P) : RQ G mX9_valueOf d 59 [x0, x1, x2, x3, x4, x5, x6, x7] (.int v :: S) h P := q_istore (M := mX9_valueOf) (pc := 59) dX9_valueOf_59 (Nat.le_of_ble_eq_true rfl) ho r
theorem tX9_valueOf_61 {v : Int32} (r : RQ G mX9_valueOf d 63 [x0, x1, x2, x3, x4, x5, x6, some (.int v)] (.int v :: S) (h) P) : RQ G mX9_valueOf d 61 [x0, x1, x2, x3, x4, x5, x6, some (.int v)] (S) h P := q_iload (M := mX9_valueOf) (pc := 61) dX9_valueOf_61 rfl r
theorem tX9_valueOf_63 {v : Int32} (r : RQ G mX9_valueOf d 65 [x0, x1, x2, x3, some (.int v), x5, x6, x7] (.int v :: S) (h) P) : RQ G mX9_valueOf d 63 [x0, x1, x2, x3, some (.int v), x5, x6, x7] (S) h P := q_iload (M := mX9_valueOf) (pc := 63) dX9_valueOf_63 rfl r
theorem tX9_valueOf_65 {x y : Int32} (kt : y ≤ x → RQ G mX9_valueOf d 94 [x0, x1, x2, x3, x4, x5, x6, x7] S h P) (kf : ¬ y ≤ x → RQ G mX9_valueOf d 68 [x0, x1, x2, x3, x4, x5, x6, x7] S h P) : RQ G mX9_valueOf d 65 [x0, x1, x2, x3, x4, x5, x6, x7] (.int y :: .int x :: S) h P := q_icmp_ge (M := mX9_valueOf) (pc := 65) dX9_valueOf_65 (by decide) kt kf
theorem tX9_valueOf_68 {v : Int64} (r : RQ G mX9_valueOf d 70 [x0, x1, x2, x3, x4, some (.long v), x6, x7] (.long v :: S) (h) P) : RQ G mX9_valueOf d 68 [x0, x1, x2, x3, x4, some (.long v), x6, x7] (S) h P := q_lload (M := mX9_valueOf) (pc := 68) dX9_valueOf_68 rfl r
theorem tX9_valueOf_70 (r : RQ G mX9_valueOf d 73 [x0, x1, x2, x3, x4, x5, x6, x7] (.long (lN 10) :: S) (h) P) : RQ G mX9_valueOf d 70 [x0, x1, x2, x3, x4, x5, x6, x7] (S) h P := q_ldc2 (M := mX9_valueOf) (pc := 70) (v := lN 10) dX9_valueOf_70 w998 r
theorem tX9_valueOf_73 {x y : Int64} (r : RQ G mX9_valueOf d 74 [x0, x1, x2, x3, x4, x5, x6, x7] (.long (x * y) :: S) (h) P) : RQ G mX9_valueOf d 73 [x0, x1, x2, x3, x4, x5, x6, x7] (.long y :: .long x :: S) h P := q_lmul (M := mX9_valueOf) (pc := 73) dX9_valueOf_73 r
theorem tX9_valueOf_74 {k : Nat} (r : RQ G mX9_valueOf d 75 [x0, some (.ref k), x2, x3, x4, x5, x6, x7] (.ref k :: S) (h) P) : RQ G mX9_valueOf d 74 [x0, some (.ref k), x2, x3, x4, x5, x6, x7] (S) h P := q_aload_n (M := mX9_valueOf) (pc := 74) (r0 := some k) dX9_valueOf_74 rfl rfl r
theorem tX9_valueOf_75 {v : Int32} (r : RQ G mX9_valueOf d 77 [x0, x1, x2, x3, x4, x5, x6, some (.int v)] (.int v :: S) (h) P) : RQ G mX9_valueOf d 75 [x0, x1, x2, x3, x4, x5, x6, some (.int v)] (S) h P := q_iload (M := mX9_valueOf) (pc := 75) dX9_valueOf_75 rfl r
theorem tX9_valueOf_77 {b d2 : Nat} {vs : List Value} {a0 : Int32} {Q : Int32 → AH → Prop} (hd : d2 + 1 ≤ d) (ha : At h b (.inr (6, vs))) (call : RQ G mX8_at d2 0 [some (.ref b), some (.int a0)] [] h (Ri Q)) (k : ∀ x h1, Q x h1 → RQ G mX9_valueOf d 80 [x0, x1, x2, x3, x4, x5, x6, x7] (.int x :: S) h1 P) (hst : (S.map fun v => v.category).sum ≤ 8 := by exact Nat.le_of_ble_eq_true rfl)  : RQ G mX9_valueOf d 77 [x0, x1, x2, x3, x4, x5, x6, x7] (.int a0 :: .ref b :: S) h P := q_callV (M := mX9_valueOf) (pc := 77) (M2 := mX8_at) (As := [.int a0]) (n := 1) dX9_valueOf_77 rfl ⟨by decide, by decide, by decide, rfl⟩ rfl w996 w958 w959 w42 w960 (show CL[6]? = some (RX8, TX8, 2) from rfl) hd (by decide) (Nat.le_of_ble_eq_true rfl) rfl ha hst call (callk_i k)
theorem tX9_valueOf_80 {x : Int32} (r : RQ G mX9_valueOf d 81 [x0, x1, x2, x3, x4, x5, x6, x7] (.long x.toInt64 :: S) (h) P) : RQ G mX9_valueOf d 80 [x0, x1, x2, x3, x4, x5, x6, x7] (.int x :: S) h P := q_i2l (M := mX9_valueOf) (pc := 80) dX9_valueOf_80 r
theorem tX9_valueOf_81 {x y : Int64} (r : RQ G mX9_valueOf d 82 [x0, x1, x2, x3, x4, x5, x6, x7] (.long (x + y) :: S) (h) P) : RQ G mX9_valueOf d 81 [x0, x1, x2, x3, x4, x5, x6, x7] (.long y :: .long x :: S) h P := q_ladd (M := mX9_valueOf) (pc := 81) dX9_valueOf_81 r
theorem tX9_valueOf_82 (r : RQ G mX9_valueOf d 85 [x0, x1, x2, x3, x4, x5, x6, x7] (.long (lN 48) :: S) (h) P) : RQ G mX9_valueOf d 82 [x0, x1, x2, x3, x4, x5, x6, x7] (S) h P := q_ldc2 (M := mX9_valueOf) (pc := 82) (v := lN 48) dX9_valueOf_82 w999 r
theorem tX9_valueOf_85 {x y : Int64} (r : RQ G mX9_valueOf d 86 [x0, x1, x2, x3, x4, x5, x6, x7] (.long (x - y) :: S) (h) P) : RQ G mX9_valueOf d 85 [x0, x1, x2, x3, x4, x5, x6, x7] (.long y :: .long x :: S) h P := q_lsub (M := mX9_valueOf) (pc := 85) dX9_valueOf_85 r
theorem tX9_valueOf_86 {v : Int64} (ho : ok1 x4 = true := by rfl) (r : RQ G mX9_valueOf d 88 [x0, x1, x2, x3, x4, some (.long v), none, x7] (S) (h) P) : RQ G mX9_valueOf d 86 [x0, x1, x2, x3, x4, x5, x6, x7] (.long v :: S) h P := q_lstore (M := mX9_valueOf) (pc := 86) dX9_valueOf_86 (Nat.le_of_ble_eq_true rfl) ho r
theorem tX9_valueOf_88 {v : Int32} (ho : ok1 x6 = true := by rfl) (r : RQ G mX9_valueOf d 91 [x0, x1, x2, x3, x4, x5, x6, some (.int (v + (nI 1)))] (S) (h) P) : RQ G mX9_valueOf d 88 [x0, x1, x2, x3, x4, x5, x6, some (.int v)] (S) h P := q_iinc (M := mX9_valueOf) (pc := 88) dX9_valueOf_88 rfl (congrArg (v + ·) (show Int32.ofInt (1) = (nI 1) by decide)) (Nat.le_of_ble_eq_true rfl) ho r
theorem tX9_valueOf_91 (r : RQ G mX9_valueOf d 61 [x0, x1, x2, x3, x4, x5, x6, x7] S h P) : RQ G mX9_valueOf d 91 [x0, x1, x2, x3, x4, x5, x6, x7] (S) h P := q_goto (M := mX9_valueOf) (pc := 91) dX9_valueOf_91 (by decide) r
theorem tX9_valueOf_94 {v : Int64} (r : RQ G mX9_valueOf d 96 [x0, x1, x2, x3, x4, some (.long v), x6, x7] (.long v :: S) (h) P) : RQ G mX9_valueOf d 94 [x0, x1, x2, x3, x4, some (.long v), x6, x7] (S) h P := q_lload (M := mX9_valueOf) (pc := 94) dX9_valueOf_94 rfl r
theorem tX9_valueOf_96 {x : Int64} (hP : P (.inl (some (.long x))) h) : RQ G mX9_valueOf d 96 [x0, x1, x2, x3, x4, x5, x6, x7] ([.long x]) h P := q_lreturn (M := mX9_valueOf) (pc := 96) dX9_valueOf_96 rfl hP
end T
