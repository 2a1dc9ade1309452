theorem dX1_init_0 : decode cX1_init 0 = .ok (.aload_n 0, 1) := by decide +kernel
theorem dX1_init_1 : decode cX1_init 1 = .ok (.invokespecial 3, 3) := by decide +kernel
theorem dX1_init_4 : decode cX1_init 4 = .ok (.aload_n 0, 1) := by decide +kernel
theorem dX1_init_5 : decode cX1_init 5 = .ok (.bipush 6, 2) := by decide +kernel
theorem dX1_init_7 : decode cX1_init 7 = .ok (.newarray .long, 2) := by decide +kernel
theorem dX1_init_9 : decode cX1_init 9 = .ok (.putfield 9, 3) := by decide +kernel
theorem dX1_init_12 : decode cX1_init 12 = .ok (.aload_n 0, 1) := by decide +kernel
theorem dX1_init_13 : decode cX1_init 13 = .ok (.bipush 8, 2) := by decide +kernel
theorem dX1_init_15 : decode cX1_init 15 = .ok (.newarray .long, 2) := by decide +kernel
theorem dX1_init_17 : decode cX1_init 17 = .ok (.putfield 15, 3) := by decide +kernel
theorem dX1_init_20 : decode cX1_init 20 = .ok (.aload_n 0, 1) := by decide +kernel
theorem dX1_init_21 : decode cX1_init 21 = .ok (.bipush 6, 2) := by decide +kernel
theorem dX1_init_23 : decode cX1_init 23 = .ok (.newarray .long, 2) := by decide +kernel
theorem dX1_init_25 : decode cX1_init 25 = .ok (.putfield 18, 3) := by decide +kernel
theorem dX1_init_28 : decode cX1_init 28 = .ok (.aload_n 0, 1) := by decide +kernel
theorem dX1_init_29 : decode cX1_init 29 = .ok (.bipush 6, 2) := by decide +kernel
theorem dX1_init_31 : decode cX1_init 31 = .ok (.newarray .int, 2) := by decide +kernel
theorem dX1_init_33 : decode cX1_init 33 = .ok (.putfield 21, 3) := by decide +kernel
theorem dX1_init_36 : decode cX1_init 36 = .ok (.aload_n 0, 1) := by decide +kernel
theorem dX1_init_37 : decode cX1_init 37 = .ok (.bipush 6, 2) := by decide +kernel
theorem dX1_init_39 : decode cX1_init 39 = .ok (.newarray .int, 2) := by decide +kernel
theorem dX1_init_41 : decode cX1_init 41 = .ok (.putfield 25, 3) := by decide +kernel
theorem dX1_init_44 : decode cX1_init 44 = .ok (.aload_n 0, 1) := by decide +kernel
theorem dX1_init_45 : decode cX1_init 45 = .ok (.bipush 6, 2) := by decide +kernel
theorem dX1_init_47 : decode cX1_init 47 = .ok (.newarray .int, 2) := by decide +kernel
theorem dX1_init_49 : decode cX1_init 49 = .ok (.putfield 28, 3) := by decide +kernel
theorem dX1_init_52 : decode cX1_init 52 = .ok (.aload_n 0, 1) := by decide +kernel
theorem dX1_init_53 : decode cX1_init 53 = .ok (.new 31, 3) := by decide +kernel
theorem dX1_init_56 : decode cX1_init 56 = .ok (.dup, 1) := by decide +kernel
theorem dX1_init_57 : decode cX1_init 57 = .ok (.invokespecial 33, 3) := by decide +kernel
theorem dX1_init_60 : decode cX1_init 60 = .ok (.putfield 34, 3) := by decide +kernel
theorem dX1_init_63 : decode cX1_init 63 = .ok (.aload_n 0, 1) := by decide +kernel
theorem dX1_init_64 : decode cX1_init 64 = .ok (.new 38, 3) := by decide +kernel
theorem dX1_init_67 : decode cX1_init 67 = .ok (.dup, 1) := by decide +kernel
theorem dX1_init_68 : decode cX1_init 68 = .ok (.invokespecial 40, 3) := by decide +kernel
theorem dX1_init_71 : decode cX1_init 71 = .ok (.putfield 41, 3) := by decide +kernel
theorem dX1_init_74 : decode cX1_init 74 = .ok (.return_, 1) := by decide +kernel
section T
variable {G : GT} {d : Nat} {S : List Value} {h : AH} {P : OC → AH → Prop} {x0 x1 x2 x3 x4 x5 x6 x7 x8 x9 x10 x11 x12 x13 x14 x15 : Option Value}
theorem tX1_init_0 {k : Nat} (r : RQ G mX1_init d 1 [some (.ref k)] (.ref k :: S) (h) P) : RQ G mX1_init d 0 [some (.ref k)] (S) h P := q_aload_n (M := mX1_init) (pc := 0) (r0 := some k) dX1_init_0 rfl rfl r
theorem tX1_init_1 {b : Nat} (hd : 1 ≤ d) (hst : (S.map fun v => v.category).sum ≤ 8 := by exact Nat.le_of_ble_eq_true rfl) (r : RQ G mX1_init d 4 [x0] (S) (h) P) : RQ G mX1_init d 1 [x0] (.ref b :: S) h P := q_objInit (M := mX1_init) (pc := 1) dX1_init_1 w135 w83 w84 hd hst r
theorem tX1_init_4 {k : Nat} (r : RQ G mX1_init d 5 [some (.ref k)] (.ref k :: S) (h) P) : RQ G mX1_init d 4 [some (.ref k)] (S) h P := q_aload_n (M := mX1_init) (pc := 4) (r0 := some k) dX1_init_4 rfl rfl r
theorem tX1_init_5 (r : RQ G mX1_init d 7 [x0] (.int (nI 6) :: S) (h) P) : RQ G mX1_init d 5 [x0] (S) h P := q_bipush (M := mX1_init) (pc := 5) dX1_init_5 (by decide) r
theorem tX1_init_7 {n : Nat} {x : Int32} (hx : x = nI n) (hn : n < 60000000) (r : RQ G mX1_init d 9 [x0] (.ref h.1 :: S) (hnew h n (.inl (2, n, .inr (.inl (fun _ => 0))))) P) : RQ G mX1_init d 7 [x0] (.int x :: S) h P := q_newaJ (M := mX1_init) (pc := 7) dX1_init_7 w129 hx hn r
theorem tX1_init_9 {i : Nat} {vs : List Value} {v : Nat} (ha : At h i (.inr (0, vs))) (hlen : vs.length = 11) (r : RQ G mX1_init d 12 [x0] (S) (hset h i (.inr (0, vs.set 0 (.ref v)))) P) : RQ G mX1_init d 9 [x0] (.ref v :: .ref i :: S) h P := q_putF (M := mX1_init) (pc := 9) (kf := 0) (host := "") dX1_init_9 (show CL[0]? = some (RX1, TX1, 11) from rfl) inA1 tyX1_ok nmX1 (by decide) rfl w264 rfl rfl rfl (tyX1_ok 0 (by decide)) (nfit_arr _ v) (by rw [hlen]; decide) ha r
theorem tX1_init_12 {k : Nat} (r : RQ G mX1_init d 13 [some (.ref k)] (.ref k :: S) (h) P) : RQ G mX1_init d 12 [some (.ref k)] (S) h P := q_aload_n (M := mX1_init) (pc := 12) (r0 := some k) dX1_init_12 rfl rfl r
theorem tX1_init_13 (r : RQ G mX1_init d 15 [x0] (.int (nI 8) :: S) (h) P) : RQ G mX1_init d 13 [x0] (S) h P := q_bipush (M := mX1_init) (pc := 13) dX1_init_13 (by decide) r
theorem tX1_init_15 {n : Nat} {x : Int32} (hx : x = nI n) (hn : n < 60000000) (r : RQ G mX1_init d 17 [x0] (.ref h.1 :: S) (hnew h n (.inl (2, n, .inr (.inl (fun _ => 0))))) P) : RQ G mX1_init d 15 [x0] (.int x :: S) h P := q_newaJ (M := mX1_init) (pc := 15) dX1_init_15 w129 hx hn r
theorem tX1_init_17 {i : Nat} {vs : List Value} {v : Nat} (ha : At h i (.inr (0, vs))) (hlen : vs.length = 11) (r : RQ G mX1_init d 20 [x0] (S) (hset h i (.inr (0, vs.set 1 (.ref v)))) P) : RQ G mX1_init d 17 [x0] (.ref v :: .ref i :: S) h P := q_putF (M := mX1_init) (pc := 17) (kf := 1) (host := "") dX1_init_17 (show CL[0]? = some (RX1, TX1, 11) from rfl) inA1 tyX1_ok nmX1 (by decide) rfl w266 rfl rfl rfl (tyX1_ok 1 (by decide)) (nfit_arr _ v) (by rw [hlen]; decide) ha r
theorem tX1_init_20 {k : Nat} (r : RQ G mX1_init d 21 [some (.ref k)] (.ref k :: S) (h) P) : RQ G mX1_init d 20 [some (.ref k)] (S) h P := q_aload_n (M := mX1_init) (pc := 20) (r0 := some k) dX1_init_20 rfl rfl r
theorem tX1_init_21 (r : RQ G mX1_init d 23 [x0] (.int (nI 6) :: S) (h) P) : RQ G mX1_init d 21 [x0] (S) h P := q_bipush (M := mX1_init) (pc := 21) dX1_init_21 (by decide) r
theorem tX1_init_23 {n : Nat} {x : Int32} (hx : x = nI n) (hn : n < 60000000) (r : RQ G mX1_init d 25 [x0] (.ref h.1 :: S) (hnew h n (.inl (2, n, .inr (.inl (fun _ => 0))))) P) : RQ G mX1_init d 23 [x0] (.int x :: S) h P := q_newaJ (M := mX1_init) (pc := 23) dX1_init_23 w129 hx hn r
theorem tX1_init_25 {i : Nat} {vs : List Value} {v : Nat} (ha : At h i (.inr (0, vs))) (hlen : vs.length = 11) (r : RQ G mX1_init d 28 [x0] (S) (hset h i (.inr (0, vs.set 2 (.ref v)))) P) : RQ G mX1_init d 25 [x0] (.ref v :: .ref i :: S) h P := q_putF (M := mX1_init) (pc := 25) (kf := 2) (host := "") dX1_init_25 (show CL[0]? = some (RX1, TX1, 11) from rfl) inA1 tyX1_ok nmX1 (by decide) rfl w268 rfl rfl rfl (tyX1_ok 2 (by decide)) (nfit_arr _ v) (by rw [hlen]; decide) ha r
theorem tX1_init_28 {k : Nat} (r : RQ G mX1_init d 29 [some (.ref k)] (.ref k :: S) (h) P) : RQ G mX1_init d 28 [some (.ref k)] (S) h P := q_aload_n (M := mX1_init) (pc := 28) (r0 := some k) dX1_init_28 rfl rfl r
theorem tX1_init_29 (r : RQ G mX1_init d 31 [x0] (.int (nI 6) :: S) (h) P) : RQ G mX1_init d 29 [x0] (S) h P := q_bipush (M := mX1_init) (pc := 29) dX1_init_29 (by decide) r
theorem tX1_init_31 {n : Nat} {x : Int32} (hx : x = nI n) (hn : n < 60000000) (r : RQ G mX1_init d 33 [x0] (.ref h.1 :: S) (hnew h n (.inl (0, n, .inl (fun _ => 0)))) P) : RQ G mX1_init d 31 [x0] (.int x :: S) h P := q_newaI (M := mX1_init) (pc := 31) dX1_init_31 w128 hx hn r
theorem tX1_init_33 {i : Nat} {vs : List Value} {v : Nat} (ha : At h i (.inr (0, vs))) (hlen : vs.length = 11) (r : RQ G mX1_init d 36 [x0] (S) (hset h i (.inr (0, vs.set 3 (.ref v)))) P) : RQ G mX1_init d 33 [x0] (.ref v :: .ref i :: S) h P := q_putF (M := mX1_init) (pc := 33) (kf := 3) (host := "") dX1_init_33 (show CL[0]? = some (RX1, TX1, 11) from rfl) inA1 tyX1_ok nmX1 (by decide) rfl w269 rfl rfl rfl (tyX1_ok 3 (by decide)) (nfit_arr _ v) (by rw [hlen]; decide) ha r
theorem tX1_init_36 {k : Nat} (r : RQ G mX1_init d 37 [some (.ref k)] (.ref k :: S) (h) P) : RQ G mX1_init d 36 [some (.ref k)] (S) h P := q_aload_n (M := mX1_init) (pc := 36) (r0 := some k) dX1_init_36 rfl rfl r
theorem tX1_init_37 (r : RQ G mX1_init d 39 [x0] (.int (nI 6) :: S) (h) P) : RQ G mX1_init d 37 [x0] (S) h P := q_bipush (M := mX1_init) (pc := 37) dX1_init_37 (by decide) r
theorem tX1_init_39 {n : Nat} {x : Int32} (hx : x = nI n) (hn : n < 60000000) (r : RQ G mX1_init d 41 [x0] (.ref h.1 :: S) (hnew h n (.inl (0, n, .inl (fun _ => 0)))) P) : RQ G mX1_init d 39 [x0] (.int x :: S) h P := q_newaI (M := mX1_init) (pc := 39) dX1_init_39 w128 hx hn r
theorem tX1_init_41 {i : Nat} {vs : List Value} {v : Nat} (ha : At h i (.inr (0, vs))) (hlen : vs.length = 11) (r : RQ G mX1_init d 44 [x0] (S) (hset h i (.inr (0, vs.set 4 (.ref v)))) P) : RQ G mX1_init d 41 [x0] (.ref v :: .ref i :: S) h P := q_putF (M := mX1_init) (pc := 41) (kf := 4) (host := "") dX1_init_41 (show CL[0]? = some (RX1, TX1, 11) from rfl) inA1 tyX1_ok nmX1 (by decide) rfl w272 rfl rfl rfl (tyX1_ok 4 (by decide)) (nfit_arr _ v) (by rw [hlen]; decide) ha r
theorem tX1_init_44 {k : Nat} (r : RQ G mX1_init d 45 [some (.ref k)] (.ref k :: S) (h) P) : RQ G mX1_init d 44 [some (.ref k)] (S) h P := q_aload_n (M := mX1_init) (pc := 44) (r0 := some k) dX1_init_44 rfl rfl r
theorem tX1_init_45 (r : RQ G mX1_init d 47 [x0] (.int (nI 6) :: S) (h) P) : RQ G mX1_init d 45 [x0] (S) h P := q_bipush (M := mX1_init) (pc := 45) dX1_init_45 (by decide) r
theorem tX1_init_47 {n : Nat} {x : Int32} (hx : x = nI n) (hn : n < 60000000) (r : RQ G mX1_init d 49 [x0] (.ref h.1 :: S) (hnew h n (.inl (0, n, .inl (fun _ => 0)))) P) : RQ G mX1_init d 47 [x0] (.int x :: S) h P := q_newaI (M := mX1_init) (pc := 47) dX1_init_47 w128 hx hn r
theorem tX1_init_49 {i : Nat} {vs : List Value} {v : Nat} (ha : At h i (.inr (0, vs))) (hlen : vs.length = 11) (r : RQ G mX1_init d 52 [x0] (S) (hset h i (.inr (0, vs.set 5 (.ref v)))) P) : RQ G mX1_init d 49 [x0] (.ref v :: .ref i :: S) h P := q_putF (M := mX1_init) (pc := 49) (kf := 5) (host := "") dX1_init_49 (show CL[0]? = some (RX1, TX1, 11) from rfl) inA1 tyX1_ok nmX1 (by decide) rfl w275 rfl rfl rfl (tyX1_ok 5 (by decide)) (nfit_arr _ v) (by rw [hlen]; decide) ha r
theorem tX1_init_52 {k : Nat} (r : RQ G mX1_init d 53 [some (.ref k)] (.ref k :: S) (h) P) : RQ G mX1_init d 52 [some (.ref k)] (S) h P := q_aload_n (M := mX1_init) (pc := 52) (r0 := some k) dX1_init_52 rfl rfl r
theorem tX1_init_53 (r : RQ G mX1_init d 56 [x0] (.ref h.1 :: S) (hnew h 5 (.inr (2, [.null, .null, .null, .null, .int 0]))) P) : RQ G mX1_init d 53 [x0] (S) h P := q_new (M := mX1_init) (pc := 53) dX1_init_53 (show CL[2]? = some (RX3, TX3, 5) from rfl) inA3 tyX3_ok w136 w137 w46 dfX3 dnX3 r
theorem tX1_init_56 {v : Value} (hv : ok1 (some v) = true := by rfl) (r : RQ G mX1_init d 57 [x0] (v :: v :: S) (h) P) : RQ G mX1_init d 56 [x0] (v :: S) h P := q_dup (M := mX1_init) (pc := 56) dX1_init_56 hv r
theorem tX1_init_57 {b d2 : Nat}  {Q : AH → Prop} (hd : d2 + 1 ≤ d) (call : RQ G mX3_init d2 0 [some (.ref b), none] [] h (Rv Q)) (k : ∀ h1, Q h1 → RQ G mX1_init d 60 [x0] S h1 P) (hst : (S.map fun v => v.category).sum ≤ 8 := by exact Nat.le_of_ble_eq_true rfl)  : RQ G mX1_init d 57 [x0] (.ref b :: S) h P := q_callI (M := mX1_init) (pc := 57) (M2 := mX3_init) (As := []) (n := 0) dX1_init_57 ⟨by decide, by decide, by decide, rfl⟩ rfl rfl rfl w138 w139 w46 w140 hd (by decide) (Nat.le_of_ble_eq_true rfl) rfl hst call (callk_v k)
theorem tX1_init_60 {i : Nat} {vs : List Value} {v : Nat} (ha : At h i (.inr (0, vs))) (hlen : vs.length = 11) (r : RQ G mX1_init d 63 [x0] (S) (hset h i (.inr (0, vs.set 6 (.ref v)))) P) : RQ G mX1_init d 60 [x0] (.ref v :: .ref i :: S) h P := q_putF (M := mX1_init) (pc := 60) (kf := 6) (host := "") dX1_init_60 (show CL[0]? = some (RX1, TX1, 11) from rfl) inA1 tyX1_ok nmX1 (by decide) rfl w277 rfl rfl rfl (tyX1_ok 6 (by decide)) (nfit_obj _ v) (by rw [hlen]; decide) ha r
theorem tX1_init_63 {k : Nat} (r : RQ G mX1_init d 64 [some (.ref k)] (.ref k :: S) (h) P) : RQ G mX1_init d 63 [some (.ref k)] (S) h P := q_aload_n (M := mX1_init) (pc := 63) (r0 := some k) dX1_init_63 rfl rfl r
theorem tX1_init_64 (r : RQ G mX1_init d 67 [x0] (.ref h.1 :: S) (hnew h 8 (.inr (5, [.null, .null, .null, .null, .null, .int 0, .int 0, .int 0]))) P) : RQ G mX1_init d 64 [x0] (S) h P := q_new (M := mX1_init) (pc := 64) dX1_init_64 (show CL[5]? = some (RX7, TX7, 8) from rfl) inA7 tyX7_ok w226 w227 w50 dfX7 dnX7 r
theorem tX1_init_67 {v : Value} (hv : ok1 (some v) = true := by rfl) (r : RQ G mX1_init d 68 [x0] (v :: v :: S) (h) P) : RQ G mX1_init d 67 [x0] (v :: S) h P := q_dup (M := mX1_init) (pc := 67) dX1_init_67 hv r
theorem tX1_init_68 {b d2 : Nat}  {Q : AH → Prop} (hd : d2 + 1 ≤ d) (call : RQ G mX7_init d2 0 [some (.ref b)] [] h (Rv Q)) (k : ∀ h1, Q h1 → RQ G mX1_init d 71 [x0] S h1 P) (hst : (S.map fun v => v.category).sum ≤ 8 := by exact Nat.le_of_ble_eq_true rfl)  : RQ G mX1_init d 68 [x0] (.ref b :: S) h P := q_callIN (M := mX1_init) (pc := 68) (M2 := mX7_init) (As := []) (n := 0) dX1_init_68 ⟨by decide, by decide, by decide, rfl⟩ rfl rfl rfl v228 w229 w50 w230 hd (by decide) (Nat.le_of_ble_eq_true rfl) rfl hst call (callk_v k)
theorem tX1_init_71 {i : Nat} {vs : List Value} {v : Nat} (ha : At h i (.inr (0, vs))) (hlen : vs.length = 11) (r : RQ G mX1_init d 74 [x0] (S) (hset h i (.inr (0, vs.set 7 (.ref v)))) P) : RQ G mX1_init d 71 [x0] (.ref v :: .ref i :: S) h P := q_putF (M := mX1_init) (pc := 71) (kf := 7) (host := "") dX1_init_71 (show CL[0]? = some (RX1, TX1, 11) from rfl) inA1 tyX1_ok nmX1 (by decide) rfl w279 rfl rfl rfl (tyX1_ok 7 (by decide)) (nfit_obj _ v) (by rw [hlen]; decide) ha r
theorem tX1_init_74 (hP : P (.inl none) h) : RQ G mX1_init d 74 [x0] ([]) h P := q_return (M := mX1_init) (pc := 74) dX1_init_74 rfl hP
end T
theorem dX1_empty_0 : decode cX1_empty 0 = .ok (.aload_n 0, 1) := by decide +kernel
theorem dX1_empty_1 : decode cX1_empty 1 = .ok (.iconst 0, 1) := by decide +kernel
theorem dX1_empty_2 : decode cX1_empty 2 = .ok (.putfield 45, 3) := by decide +kernel
theorem dX1_empty_5 : decode cX1_empty 5 = .ok (.aload_n 0, 1) := by decide +kernel
theorem dX1_empty_6 : decode cX1_empty 6 = .ok (.iconst 0, 1) := by decide +kernel
theorem dX1_empty_7 : decode cX1_empty 7 = .ok (.putfield 49, 3) := by decide +kernel
theorem dX1_empty_10 : decode cX1_empty 10 = .ok (.aload_n 0, 1) := by decide +kernel
theorem dX1_empty_11 : decode cX1_empty 11 = .ok (.iconst 0, 1) := by decide +kernel
theorem dX1_empty_12 : decode cX1_empty 12 = .ok (.putfield 52, 3) := by decide +kernel
theorem dX1_empty_15 : decode cX1_empty 15 = .ok (.aload_n 0, 1) := by decide +kernel
theorem dX1_empty_16 : decode cX1_empty 16 = .ok (.getfield 34, 3) := by decide +kernel
theorem dX1_empty_19 : decode cX1_empty 19 = .ok (.invokevirtual 55, 3) := by decide +kernel
theorem dX1_empty_22 : decode cX1_empty 22 = .ok (.aload_n 0, 1) := by decide +kernel
theorem dX1_empty_23 : decode cX1_empty 23 = .ok (.getfield 41, 3) := by decide +kernel
theorem dX1_empty_26 : decode cX1_empty 26 = .ok (.invokevirtual 58, 3) := by decide +kernel
theorem dX1_empty_29 : decode cX1_empty 29 = .ok (.return_, 1) := by decide +kernel
section T
variable {G : GT} {d : Nat} {S : List Value} {h : AH} {P : OC → AH → Prop} {x0 x1 x2 x3 x4 x5 x6 x7 x8 x9 x10 x11 x12 x13 x14 x15 : Option Value}
theorem tX1_empty_0 {k : Nat} (r : RQ G mX1_empty d 1 [some (.ref k)] (.ref k :: S) (h) P) : RQ G mX1_empty d 0 [some (.ref k)] (S) h P := q_aload_n (M := mX1_empty) (pc := 0) (r0 := some k) dX1_empty_0 rfl rfl r
theorem tX1_empty_1 (r : RQ G mX1_empty d 2 [x0] (.int (nI 0) :: S) (h) P) : RQ G mX1_empty d 1 [x0] (S) h P := q_iconst (M := mX1_empty) (pc := 1) dX1_empty_1 (by decide) r
theorem tX1_empty_2 {i : Nat} {vs : List Value} {v : Int32} (ha : At h i (.inr (0, vs))) (hlen : vs.length = 11) (r : RQ G mX1_empty d 5 [x0] (S) (hset h i (.inr (0, vs.set 8 (.int v)))) P) : RQ G mX1_empty d 2 [x0] (.int v :: .ref i :: S) h P := q_put (M := mX1_empty) (pc := 2) (kf := 8) (host := "") dX1_empty_2 (show CL[0]? = some (RX1, TX1, 11) from rfl) inA1 tyX1_ok nmX1 (by decide) rfl w282 rfl (tyX1_ok 8 (by decide)) (nfit_int v) (by rw [hlen]; decide) ha r
theorem tX1_empty_5 {k : Nat} (r : RQ G mX1_empty d 6 [some (.ref k)] (.ref k :: S) (h) P) : RQ G mX1_empty d 5 [some (.ref k)] (S) h P := q_aload_n (M := mX1_empty) (pc := 5) (r0 := some k) dX1_empty_5 rfl rfl r
theorem tX1_empty_6 (r : RQ G mX1_empty d 7 [x0] (.int (nI 0) :: S) (h) P) : RQ G mX1_empty d 6 [x0] (S) h P := q_iconst (M := mX1_empty) (pc := 6) dX1_empty_6 (by decide) r
theorem tX1_empty_7 {i : Nat} {vs : List Value} {v : Int32} (ha : At h i (.inr (0, vs))) (hlen : vs.length = 11) (r : RQ G mX1_empty d 10 [x0] (S) (hset h i (.inr (0, vs.set 9 (.int v)))) P) : RQ G mX1_empty d 7 [x0] (.int v :: .ref i :: S) h P := q_put (M := mX1_empty) (pc := 7) (kf := 9) (host := "") dX1_empty_7 (show CL[0]? = some (RX1, TX1, 11) from rfl) inA1 tyX1_ok nmX1 (by decide) rfl w286 rfl (tyX1_ok 9 (by decide)) (nfit_int v) (by rw [hlen]; decide) ha r
theorem tX1_empty_10 {k : Nat} (r : RQ G mX1_empty d 11 [some (.ref k)] (.ref k :: S) (h) P) : RQ G mX1_empty d 10 [some (.ref k)] (S) h P := q_aload_n (M := mX1_empty) (pc := 10) (r0 := some k) dX1_empty_10 rfl rfl r
theorem tX1_empty_11 (r : RQ G mX1_empty d 12 [x0] (.int (nI 0) :: S) (h) P) : RQ G mX1_empty d 11 [x0] (S) h P := q_iconst (M := mX1_empty) (pc := 11) dX1_empty_11 (by decide) r
theorem tX1_empty_12 {i : Nat} {vs : List Value} {v : Int32} (ha : At h i (.inr (0, vs))) (hlen : vs.length = 11) (r : RQ G mX1_empty d 15 [x0] (S) (hset h i (.inr (0, vs.set 10 (.int v)))) P) : RQ G mX1_empty d 12 [x0] (.int v :: .ref i :: S) h P := q_put (M := mX1_empty) (pc := 12) (kf := 10) (host := "") dX1_empty_12 (show CL[0]? = some (RX1, TX1, 11) from rfl) inA1 tyX1_ok nmX1 (by decide) rfl w290 rfl (tyX1_ok 10 (by decide)) (nfit_int v) (by rw [hlen]; decide) ha r
theorem tX1_empty_15 {k : Nat} (r : RQ G mX1_empty d 16 [some (.ref k)] (.ref k :: S) (h) P) : RQ G mX1_empty d 15 [some (.ref k)] (S) h P := q_aload_n (M := mX1_empty) (pc := 15) (r0 := some k) dX1_empty_15 rfl rfl r
theorem tX1_empty_16 {i : Nat} {vs : List Value} {v : Value} (ha : At h i (.inr (0, vs))) (hv : vs[6]? = some v) (r : RQ G mX1_empty d 19 [x0] (v :: S) (h) P) : RQ G mX1_empty d 16 [x0] (.ref i :: S) h P := q_get (M := mX1_empty) (pc := 16) (kf := 6) dX1_empty_16 (show CL[0]? = some (RX1, TX1, 11) from rfl) inA1 (by decide) rfl w277 ha hv r
theorem tX1_empty_19 {b d2 : Nat} {vs : List Value}  {Q : AH → Prop} (hd : d2 + 1 ≤ d) (ha : At h b (.inr (2, vs))) (call : RQ G mX3_empty d2 0 [some (.ref b), none] [] h (Rv Q)) (k : ∀ h1, Q h1 → RQ G mX1_empty d 22 [x0] S h1 P) (hst : (S.map fun v => v.category).sum ≤ 8 := by exact Nat.le_of_ble_eq_true rfl)  : RQ G mX1_empty d 19 [x0] (.ref b :: S) h P := q_callV (M := mX1_empty) (pc := 19) (M2 := mX3_empty) (As := []) (n := 0) dX1_empty_19 rfl ⟨by decide, by decide, by decide, rfl⟩ rfl w1004 w1005 w1006 w46 w1007 (show CL[2]? = some (RX3, TX3, 5) from rfl) hd (by decide) (Nat.le_of_ble_eq_true rfl) rfl ha hst call (callk_v k)
theorem tX1_empty_22 {k : Nat} (r : RQ G mX1_empty d 23 [some (.ref k)] (.ref k :: S) (h) P) : RQ G mX1_empty d 22 [some (.ref k)] (S) h P := q_aload_n (M := mX1_empty) (pc := 22) (r0 := some k) dX1_empty_22 rfl rfl r
theorem tX1_empty_23 {i : Nat} {vs : List Value} {v : Value} (ha : At h i (.inr (0, vs))) (hv : vs[7]? = some v) (r : RQ G mX1_empty d 26 [x0] (v :: S) (h) P) : RQ G mX1_empty d 23 [x0] (.ref i :: S) h P := q_get (M := mX1_empty) (pc := 23) (kf := 7) dX1_empty_23 (show CL[0]? = some (RX1, TX1, 11) from rfl) inA1 (by decide) rfl w279 ha hv r
theorem tX1_empty_26 {b d2 : Nat} {vs : List Value}  {Q : AH → Prop} (hd : d2 + 1 ≤ d) (ha : At h b (.inr (5, vs))) (call : RQ G mX7_empty d2 0 [some (.ref b)] [] h (Rv Q)) (k : ∀ h1, Q h1 → RQ G mX1_empty d 29 [x0] S h1 P) (hst : (S.map fun v => v.category).sum ≤ 8 := by exact Nat.le_of_ble_eq_true rfl)  : RQ G mX1_empty d 26 [x0] (.ref b :: S) h P := q_callV (M := mX1_empty) (pc := 26) (M2 := mX7_empty) (As := []) (n := 0) dX1_empty_26 rfl ⟨by decide, by decide, by decide, rfl⟩ rfl w1012 w1013 w1014 w50 w1015 (show CL[5]? = some (RX7, TX7, 8) from rfl) hd (by decide) (Nat.le_of_ble_eq_true rfl) rfl ha hst call (callk_v k)
theorem tX1_empty_29 (hP : P (.inl none) h) : RQ G mX1_empty d 29 [x0] ([]) h P := q_return (M := mX1_empty) (pc := 29) dX1_empty_29 rfl hP
end T
theorem dX1_find_0 : decode cX1_find 0 = .ok (.iconst 0, 1) := by decide +kernel
theorem dX1_find_1 : decode cX1_find 1 = .ok (.istore 4, 2) := by decide +kernel
theorem dX1_find_3 : decode cX1_find 3 = .ok (.iload 4, 2) := by decide +kernel
theorem dX1_find_5 : decode cX1_find 5 = .ok (.iload_n 1, 1) := by decide +kernel
theorem dX1_find_6 : decode cX1_find 6 = .ok (.if_icmp .ge 28, 3) := by decide +kernel
theorem dX1_find_9 : decode cX1_find 9 = .ok (.iload 4, 2) := by decide +kernel
theorem dX1_find_11 : decode cX1_find 11 = .ok (.aload_n 0, 1) := by decide +kernel
theorem dX1_find_12 : decode cX1_find 12 = .ok (.arraylength, 1) := by decide +kernel
theorem dX1_find_13 : decode cX1_find 13 = .ok (.if_icmp .ge 21, 3) := by decide +kernel
theorem dX1_find_16 : decode cX1_find 16 = .ok (.aload_n 0, 1) := by decide +kernel
theorem dX1_find_17 : decode cX1_find 17 = .ok (.iload 4, 2) := by decide +kernel
theorem dX1_find_19 : decode cX1_find 19 = .ok (.laload, 1) := by decide +kernel
theorem dX1_find_20 : decode cX1_find 20 = .ok (.lload_n 2, 1) := by decide +kernel
theorem dX1_find_21 : decode cX1_find 21 = .ok (.lcmp, 1) := by decide +kernel
theorem dX1_find_22 : decode cX1_find 22 = .ok (.ifCond .ne 6, 3) := by decide +kernel
theorem dX1_find_25 : decode cX1_find 25 = .ok (.iload 4, 2) := by decide +kernel
theorem dX1_find_27 : decode cX1_find 27 = .ok (.ireturn, 1) := by decide +kernel
theorem dX1_find_28 : decode cX1_find 28 = .ok (.iinc 4 1, 3) := by decide +kernel
theorem dX1_find_31 : decode cX1_find 31 = .ok (.goto (-28), 3) := by decide +kernel
theorem dX1_find_34 : decode cX1_find 34 = .ok (.iconst (-1), 1) := by decide +kernel
theorem dX1_find_35 : decode cX1_find 35 = .ok (.ireturn, 1) := by decide +kernel
section T
variable {G : GT} {d : Nat} {S : List Value} {h : AH} {P : OC → AH → Prop} {x0 x1 x2 x3 x4 x5 x6 x7 x8 x9 x10 x11 x12 x13 x14 x15 : Option Value}
theorem tX1_find_0 (r : RQ G mX1_find d 1 [x0, x1, x2, x3, x4] (.int (nI 0) :: S) (h) P) : RQ G mX1_find d 0 [x0, x1, x2, x3, x4] (S) h P := q_iconst (M := mX1_find) (pc := 0) dX1_find_0 (by decide) r
theorem tX1_find_1 {v : Int32} (ho : ok1 x3 = true := by rfl) (r : RQ G mX1_find d 3 [x0, x1, x2, x3, some (.int v)] (S) (h) P) : RQ G mX1_find d 1 [x0, x1, x2, x3, x4] (.int v :: S) h P := q_istore (M := mX1_find) (pc := 1) dX1_find_1 (Nat.le_of_ble_eq_true rfl) ho r
theorem tX1_find_3 {v : Int32} (r : RQ G mX1_find d 5 [x0, x1, x2, x3, some (.int v)] (.int v :: S) (h) P) : RQ G mX1_find d 3 [x0, x1, x2, x3, some (.int v)] (S) h P := q_iload (M := mX1_find) (pc := 3) dX1_find_3 rfl r
theorem tX1_find_5 {v : Int32} (r : RQ G mX1_find d 6 [x0, some (.int v), x2, x3, x4] (.int v :: S) (h) P) : RQ G mX1_find d 5 [x0, some (.int v), x2, x3, x4] (S) h P := q_iload_n (M := mX1_find) (pc := 5) dX1_find_5 rfl rfl r
theorem tX1_find_6 {x y : Int32} (kt : y ≤ x → RQ G mX1_find d 34 [x0, x1, x2, x3, x4] S h P) (kf : ¬ y ≤ x → RQ G mX1_find d 9 [x0, x1, x2, x3, x4] S h P) : RQ G mX1_find d 6 [x0, x1, x2, x3, x4] (.int y :: .int x :: S) h P := q_icmp_ge (M := mX1_find) (pc := 6) dX1_find_6 (by decide) kt kf
theorem tX1_find_9 {v : Int32} (r : RQ G mX1_find d 11 [x0, x1, x2, x3, some (.int v)] (.int v :: S) (h) P) : RQ G mX1_find d 9 [x0, x1, x2, x3, some (.int v)] (S) h P := q_iload (M := mX1_find) (pc := 9) dX1_find_9 rfl r
theorem tX1_find_11 {k : Nat} (r : RQ G mX1_find d 12 [some (.ref k), x1, x2, x3, x4] (.ref k :: S) (h) P) : RQ G mX1_find d 11 [some (.ref k), x1, x2, x3, x4] (S) h P := q_aload_n (M := mX1_find) (pc := 11) (r0 := some k) dX1_find_11 rfl rfl r
theorem tX1_find_12 {a n : Nat} {f : Nat → Int64} (ha : At h a (.inl (2, n, .inr (.inl f)))) (r : RQ G mX1_find d 13 [x0, x1, x2, x3, x4] (.int (nI n) :: S) (h) P) : RQ G mX1_find d 12 [x0, x1, x2, x3, x4] (.ref a :: S) h P := q_alen (M := mX1_find) (pc := 12) (t := 2) dX1_find_12 rfl ha rfl r
theorem tX1_find_13 {x y : Int32} (kt : y ≤ x → RQ G mX1_find d 34 [x0, x1, x2, x3, x4] S h P) (kf : ¬ y ≤ x → RQ G mX1_find d 16 [x0, x1, x2, x3, x4] S h P) : RQ G mX1_find d 13 [x0, x1, x2, x3, x4] (.int y :: .int x :: S) h P := q_icmp_ge (M := mX1_find) (pc := 13) dX1_find_13 (by decide) kt kf
theorem tX1_find_16 {k : Nat} (r : RQ G mX1_find d 17 [some (.ref k), x1, x2, x3, x4] (.ref k :: S) (h) P) : RQ G mX1_find d 16 [some (.ref k), x1, x2, x3, x4] (S) h P := q_aload_n (M := mX1_find) (pc := 16) (r0 := some k) dX1_find_16 rfl rfl r
theorem tX1_find_17 {v : Int32} (r : RQ G mX1_find d 19 [x0, x1, x2, x3, some (.int v)] (.int v :: S) (h) P) : RQ G mX1_find d 17 [x0, x1, x2, x3, some (.int v)] (S) h P := q_iload (M := mX1_find) (pc := 17) dX1_find_17 rfl r
theorem tX1_find_19 {a n j : Nat} {x : Int32} {f : Nat → Int64} (ha : At h a (.inl (2, n, .inr (.inl f)))) (hx : x = nI j) (hj : j < n) (hn : n < 2147483648) (r : RQ G mX1_find d 20 [x0, x1, x2, x3, x4] (.long (f j) :: S) (h) P) : RQ G mX1_find d 19 [x0, x1, x2, x3, x4] (.int x :: .ref a :: S) h P := q_lald (M := mX1_find) (pc := 19) dX1_find_19 ha hx hj hn r
theorem tX1_find_20 {v : Int64} (r : RQ G mX1_find d 21 [x0, x1, some (.long v), x3, x4] (.long v :: S) (h) P) : RQ G mX1_find d 20 [x0, x1, some (.long v), x3, x4] (S) h P := q_lload_n (M := mX1_find) (pc := 20) dX1_find_20 rfl rfl r
theorem tX1_find_21 {x y : Int64} (r : RQ G mX1_find d 22 [x0, x1, x2, x3, x4] (.int (lg_cmp x y) :: S) (h) P) : RQ G mX1_find d 21 [x0, x1, x2, x3, x4] (.long y :: .long x :: S) h P := q_lcmp (M := mX1_find) (pc := 21) dX1_find_21 r
theorem tX1_find_22 {x : Int32} (kt : ¬ x = 0 → RQ G mX1_find d 28 [x0, x1, x2, x3, x4] S h P) (kf : x = 0 → RQ G mX1_find d 25 [x0, x1, x2, x3, x4] S h P) : RQ G mX1_find d 22 [x0, x1, x2, x3, x4] (.int x :: S) h P := q_if_ne (M := mX1_find) (pc := 22) dX1_find_22 (by decide) kt kf
theorem tX1_find_25 {v : Int32} (r : RQ G mX1_find d 27 [x0, x1, x2, x3, some (.int v)] (.int v :: S) (h) P) : RQ G mX1_find d 25 [x0, x1, x2, x3, some (.int v)] (S) h P := q_iload (M := mX1_find) (pc := 25) dX1_find_25 rfl r
theorem tX1_find_27 {x : Int32} (hP : P (.inl (some (.int x))) h) : RQ G mX1_find d 27 [x0, x1, x2, x3, x4] ([.int x]) h P := q_ireturn (M := mX1_find) (pc := 27) (ty := .int) dX1_find_27 rfl rfl hP
theorem tX1_find_28 {v : Int32} (ho : ok1 x3 = true := by rfl) (r : RQ G mX1_find d 31 [x0, x1, x2, x3, some (.int (v + (nI 1)))] (S) (h) P) : RQ G mX1_find d 28 [x0, x1, x2, x3, some (.int v)] (S) h P := q_iinc (M := mX1_find) (pc := 28) dX1_find_28 rfl (congrArg (v + ·) (show Int32.ofInt (1) = (nI 1) by decide)) (Nat.le_of_ble_eq_true rfl) ho r
theorem tX1_find_31 (r : RQ G mX1_find d 3 [x0, x1, x2, x3, x4] S h P) : RQ G mX1_find d 31 [x0, x1, x2, x3, x4] (S) h P := q_goto (M := mX1_find) (pc := 31) dX1_find_31 (by decide) r
theorem tX1_find_34 (r : RQ G mX1_find d 35 [x0, x1, x2, x3, x4] (.int (-1) :: S) (h) P) : RQ G mX1_find d 34 [x0, x1, x2, x3, x4] (S) h P := q_iconst (M := mX1_find) (pc := 34) dX1_find_34 (by decide) r
theorem tX1_find_35 {x : Int32} (hP : P (.inl (some (.int x))) h) : RQ G mX1_find d 35 [x0, x1, x2, x3, x4] ([.int x]) h P := q_ireturn (M := mX1_find) (pc := 35) (ty := .int) dX1_find_35 rfl rfl hP
end T
theorem dX1_hasName_0 : decode cX1_hasName 0 = .ok (.aload_n 0, 1) := by decide +kernel
theorem dX1_hasName_1 : decode cX1_hasName 1 = .ok (.getfield 9, 3) := by decide +kernel
theorem dX1_hasName_4 : decode cX1_hasName 4 = .ok (.aload_n 0, 1) := by decide +kernel
theorem dX1_hasName_5 : decode cX1_hasName 5 = .ok (.getfield 45, 3) := by decide +kernel
theorem dX1_hasName_8 : decode cX1_hasName 8 = .ok (.lload_n 1, 1) := by decide +kernel
theorem dX1_hasName_9 : decode cX1_hasName 9 = .ok (.invokestatic 59, 3) := by decide +kernel
theorem dX1_hasName_12 : decode cX1_hasName 12 = .ok (.iconst (-1), 1) := by decide +kernel
theorem dX1_hasName_13 : decode cX1_hasName 13 = .ok (.if_icmp .ne 35, 3) := by decide +kernel
theorem dX1_hasName_16 : decode cX1_hasName 16 = .ok (.aload_n 0, 1) := by decide +kernel
theorem dX1_hasName_17 : decode cX1_hasName 17 = .ok (.getfield 15, 3) := by decide +kernel
theorem dX1_hasName_20 : decode cX1_hasName 20 = .ok (.aload_n 0, 1) := by decide +kernel
theorem dX1_hasName_21 : decode cX1_hasName 21 = .ok (.getfield 49, 3) := by decide +kernel
theorem dX1_hasName_24 : decode cX1_hasName 24 = .ok (.lload_n 1, 1) := by decide +kernel
theorem dX1_hasName_25 : decode cX1_hasName 25 = .ok (.invokestatic 59, 3) := by decide +kernel
theorem dX1_hasName_28 : decode cX1_hasName 28 = .ok (.iconst (-1), 1) := by decide +kernel
theorem dX1_hasName_29 : decode cX1_hasName 29 = .ok (.if_icmp .ne 19, 3) := by decide +kernel
theorem dX1_hasName_32 : decode cX1_hasName 32 = .ok (.aload_n 0, 1) := by decide +kernel
theorem dX1_hasName_33 : decode cX1_hasName 33 = .ok (.getfield 18, 3) := by decide +kernel
theorem dX1_hasName_36 : decode cX1_hasName 36 = .ok (.aload_n 0, 1) := by decide +kernel
theorem dX1_hasName_37 : decode cX1_hasName 37 = .ok (.getfield 52, 3) := by decide +kernel
theorem dX1_hasName_40 : decode cX1_hasName 40 = .ok (.lload_n 1, 1) := by decide +kernel
theorem dX1_hasName_41 : decode cX1_hasName 41 = .ok (.invokestatic 59, 3) := by decide +kernel
theorem dX1_hasName_44 : decode cX1_hasName 44 = .ok (.iconst (-1), 1) := by decide +kernel
theorem dX1_hasName_45 : decode cX1_hasName 45 = .ok (.if_icmp .eq 7, 3) := by decide +kernel
theorem dX1_hasName_48 : decode cX1_hasName 48 = .ok (.iconst 1, 1) := by decide +kernel
theorem dX1_hasName_49 : decode cX1_hasName 49 = .ok (.goto 4, 3) := by decide +kernel
theorem dX1_hasName_52 : decode cX1_hasName 52 = .ok (.iconst 0, 1) := by decide +kernel
theorem dX1_hasName_53 : decode cX1_hasName 53 = .ok (.ireturn, 1) := by decide +kernel
section T
variable {G : GT} {d : Nat} {S : List Value} {h : AH} {P : OC → AH → Prop} {x0 x1 x2 x3 x4 x5 x6 x7 x8 x9 x10 x11 x12 x13 x14 x15 : Option Value}
theorem tX1_hasName_0 {k : Nat} (r : RQ G mX1_hasName d 1 [some (.ref k), x1, x2] (.ref k :: S) (h) P) : RQ G mX1_hasName d 0 [some (.ref k), x1, x2] (S) h P := q_aload_n (M := mX1_hasName) (pc := 0) (r0 := some k) dX1_hasName_0 rfl rfl r
theorem tX1_hasName_1 {i : Nat} {vs : List Value} {v : Value} (ha : At h i (.inr (0, vs))) (hv : vs[0]? = some v) (r : RQ G mX1_hasName d 4 [x0, x1, x2] (v :: S) (h) P) : RQ G mX1_hasName d 1 [x0, x1, x2] (.ref i :: S) h P := q_get (M := mX1_hasName) (pc := 1) (kf := 0) dX1_hasName_1 (show CL[0]? = some (RX1, TX1, 11) from rfl) inA1 (by decide) rfl w264 ha hv r
theorem tX1_hasName_4 {k : Nat} (r : RQ G mX1_hasName d 5 [some (.ref k), x1, x2] (.ref k :: S) (h) P) : RQ G mX1_hasName d 4 [some (.ref k), x1, x2] (S) h P := q_aload_n (M := mX1_hasName) (pc := 4) (r0 := some k) dX1_hasName_4 rfl rfl r
theorem tX1_hasName_5 {i : Nat} {vs : List Value} {v : Value} (ha : At h i (.inr (0, vs))) (hv : vs[8]? = some v) (r : RQ G mX1_hasName d 8 [x0, x1, x2] (v :: S) (h) P) : RQ G mX1_hasName d 5 [x0, x1, x2] (.ref i :: S) h P := q_get (M := mX1_hasName) (pc := 5) (kf := 8) dX1_hasName_5 (show CL[0]? = some (RX1, TX1, 11) from rfl) inA1 (by decide) rfl w282 ha hv r
theorem tX1_hasName_8 {v : Int64} (r : RQ G mX1_hasName d 9 [x0, some (.long v), x2] (.long v :: S) (h) P) : RQ G mX1_hasName d 8 [x0, some (.long v), x2] (S) h P := q_lload_n (M := mX1_hasName) (pc := 8) dX1_hasName_8 rfl rfl r
theorem tX1_hasName_9 {d2 : Nat} {a0 : Nat} {a1 : Int32} {a2 : Int64} {Q : Int32 → AH → Prop} (hd : d2 + 1 ≤ d) (call : RQ G mX1_find d2 0 [some (.ref a0), some (.int a1), some (.long a2), none, none] [] h (Ri Q)) (k : ∀ x h1, Q x h1 → RQ G mX1_hasName d 12 [x0, x1, x2] (.int x :: S) h1 P) (hst : (S.map fun v => v.category).sum ≤ 8 := by exact Nat.le_of_ble_eq_true rfl)  : RQ G mX1_hasName d 9 [x0, x1, x2] (.long a2 :: .int a1 :: .ref a0 :: S) h P := q_callS (M := mX1_hasName) (pc := 9) (M2 := mX1_find) (As := [.ref a0, .int a1, .long a2]) (n := 3) dX1_hasName_9 ⟨by decide, by decide, by decide, rfl⟩ rfl w1043 w1044 w45 w1045 hd (by decide) (Nat.le_of_ble_eq_true rfl) rfl hst call (callk_i k)
theorem tX1_hasName_12 (r : RQ G mX1_hasName d 13 [x0, x1, x2] (.int (-1) :: S) (h) P) : RQ G mX1_hasName d 12 [x0, x1, x2] (S) h P := q_iconst (M := mX1_hasName) (pc := 12) dX1_hasName_12 (by decide) r
theorem tX1_hasName_13 {x y : Int32} (kt : ¬ x = y → RQ G mX1_hasName d 48 [x0, x1, x2] S h P) (kf : x = y → RQ G mX1_hasName d 16 [x0, x1, x2] S h P) : RQ G mX1_hasName d 13 [x0, x1, x2] (.int y :: .int x :: S) h P := q_icmp_ne (M := mX1_hasName) (pc := 13) dX1_hasName_13 (by decide) kt kf
theorem tX1_hasName_16 {k : Nat} (r : RQ G mX1_hasName d 17 [some (.ref k), x1, x2] (.ref k :: S) (h) P) : RQ G mX1_hasName d 16 [some (.ref k), x1, x2] (S) h P := q_aload_n (M := mX1_hasName) (pc := 16) (r0 := some k) dX1_hasName_16 rfl rfl r
theorem tX1_hasName_17 {i : Nat} {vs : List Value} {v : Value} (ha : At h i (.inr (0, vs))) (hv : vs[1]? = some v) (r : RQ G mX1_hasName d 20 [x0, x1, x2] (v :: S) (h) P) : RQ G mX1_hasName d 17 [x0, x1, x2] (.ref i :: S) h P := q_get (M := mX1_hasName) (pc := 17) (kf := 1) dX1_hasName_17 (show CL[0]? = some (RX1, TX1, 11) from rfl) inA1 (by decide) rfl w266 ha hv r
theorem tX1_hasName_20 {k : Nat} (r : RQ G mX1_hasName d 21 [some (.ref k), x1, x2] (.ref k :: S) (h) P) : RQ G mX1_hasName d 20 [some (.ref k), x1, x2] (S) h P := q_aload_n (M := mX1_hasName) (pc := 20) (r0 := some k) dX1_hasName_20 rfl rfl r
theorem tX1_hasName_21 {i : Nat} {vs : List Value} {v : Value} (ha : At h i (.inr (0, vs))) (hv : vs[9]? = some v) (r : RQ G mX1_hasName d 24 [x0, x1, x2] (v :: S) (h) P) : RQ G mX1_hasName d 21 [x0, x1, x2] (.ref i :: S) h P := q_get (M := mX1_hasName) (pc := 21) (kf := 9) dX1_hasName_21 (show CL[0]? = some (RX1, TX1, 11) from rfl) inA1 (by decide) rfl w286 ha hv r
theorem tX1_hasName_24 {v : Int64} (r : RQ G mX1_hasName d 25 [x0, some (.long v), x2] (.long v :: S) (h) P) : RQ G mX1_hasName d 24 [x0, some (.long v), x2] (S) h P := q_lload_n (M := mX1_hasName) (pc := 24) dX1_hasName_24 rfl rfl r
theorem tX1_hasName_25 {d2 : Nat} {a0 : Nat} {a1 : Int32} {a2 : Int64} {Q : Int32 → AH → Prop} (hd : d2 + 1 ≤ d) (call : RQ G mX1_find d2 0 [some (.ref a0), some (.int a1), some (.long a2), none, none] [] h (Ri Q)) (k : ∀ x h1, Q x h1 → RQ G mX1_hasName d 28 [x0, x1, x2] (.int x :: S) h1 P) (hst : (S.map fun v => v.category).sum ≤ 8 := by exact Nat.le_of_ble_eq_true rfl)  : RQ G mX1_hasName d 25 [x0, x1, x2] (.long a2 :: .int a1 :: .ref a0 :: S) h P := q_callS (M := mX1_hasName) (pc := 25) (M2 := mX1_find) (As := [.ref a0, .int a1, .long a2]) (n := 3) dX1_hasName_25 ⟨by decide, by decide, by decide, rfl⟩ rfl w1043 w1044 w45 w1045 hd (by decide) (Nat.le_of_ble_eq_true rfl) rfl hst call (callk_i k)
theorem tX1_hasName_28 (r : RQ G mX1_hasName d 29 [x0, x1, x2] (.int (-1) :: S) (h) P) : RQ G mX1_hasName d 28 [x0, x1, x2] (S) h P := q_iconst (M := mX1_hasName) (pc := 28) dX1_hasName_28 (by decide) r
theorem tX1_hasName_29 {x y : Int32} (kt : ¬ x = y → RQ G mX1_hasName d 48 [x0, x1, x2] S h P) (kf : x = y → RQ G mX1_hasName d 32 [x0, x1, x2] S h P) : RQ G mX1_hasName d 29 [x0, x1, x2] (.int y :: .int x :: S) h P := q_icmp_ne (M := mX1_hasName) (pc := 29) dX1_hasName_29 (by decide) kt kf
theorem tX1_hasName_32 {k : Nat} (r : RQ G mX1_hasName d 33 [some (.ref k), x1, x2] (.ref k :: S) (h) P) : RQ G mX1_hasName d 32 [some (.ref k), x1, x2] (S) h P := q_aload_n (M := mX1_hasName) (pc := 32) (r0 := some k) dX1_hasName_32 rfl rfl r
theorem tX1_hasName_33 {i : Nat} {vs : List Value} {v : Value} (ha : At h i (.inr (0, vs))) (hv : vs[2]? = some v) (r : RQ G mX1_hasName d 36 [x0, x1, x2] (v :: S) (h) P) : RQ G mX1_hasName d 33 [x0, x1, x2] (.ref i :: S) h P := q_get (M := mX1_hasName) (pc := 33) (kf := 2) dX1_hasName_33 (show CL[0]? = some (RX1, TX1, 11) from rfl) inA1 (by decide) rfl w268 ha hv r
theorem tX1_hasName_36 {k : Nat} (r : RQ G mX1_hasName d 37 [some (.ref k), x1, x2] (.ref k :: S) (h) P) : RQ G mX1_hasName d 36 [some (.ref k), x1, x2] (S) h P := q_aload_n (M := mX1_hasName) (pc := 36) (r0 := some k) dX1_hasName_36 rfl rfl r
theorem tX1_hasName_37 {i : Nat} {vs : List Value} {v : Value} (ha : At h i (.inr (0, vs))) (hv : vs[10]? = some v) (r : RQ G mX1_hasName d 40 [x0, x1, x2] (v :: S) (h) P) : RQ G mX1_hasName d 37 [x0, x1, x2] (.ref i :: S) h P := q_get (M := mX1_hasName) (pc := 37) (kf := 10) dX1_hasName_37 (show CL[0]? = some (RX1, TX1, 11) from rfl) inA1 (by decide) rfl w290 ha hv r
theorem tX1_hasName_40 {v : Int64} (r : RQ G mX1_hasName d 41 [x0, some (.long v), x2] (.long v :: S) (h) P) : RQ G mX1_hasName d 40 [x0, some (.long v), x2] (S) h P := q_lload_n (M := mX1_hasName) (pc := 40) dX1_hasName_40 rfl rfl r
theorem tX1_hasName_41 {d2 : Nat} {a0 : Nat} {a1 : Int32} {a2 : Int64} {Q : Int32 → AH → Prop} (hd : d2 + 1 ≤ d) (call : RQ G mX1_find d2 0 [some (.ref a0), some (.int a1), some (.long a2), none, none] [] h (Ri Q)) (k : ∀ x h1, Q x h1 → RQ G mX1_hasName d 44 [x0, x1, x2] (.int x :: S) h1 P) (hst : (S.map fun v => v.category).sum ≤ 8 := by exact Nat.le_of_ble_eq_true rfl)  : RQ G mX1_hasName d 41 [x0, x1, x2] (.long a2 :: .int a1 :: .ref a0 :: S) h P := q_callS (M := mX1_hasName) (pc := 41) (M2 := mX1_find) (As := [.ref a0, .int a1, .long a2]) (n := 3) dX1_hasName_41 ⟨by decide, by decide, by decide, rfl⟩ rfl w1043 w1044 w45 w1045 hd (by decide) (Nat.le_of_ble_eq_true rfl) rfl hst call (callk_i k)
theorem tX1_hasName_44 (r : RQ G mX1_hasName d 45 [x0, x1, x2] (.int (-1) :: S) (h) P) : RQ G mX1_hasName d 44 [x0, x1, x2] (S) h P := q_iconst (M := mX1_hasName) (pc := 44) dX1_hasName_44 (by decide) r
theorem tX1_hasName_45 {x y : Int32} (kt : x = y → RQ G mX1_hasName d 52 [x0, x1, x2] S h P) (kf : ¬ x = y → RQ G mX1_hasName d 48 [x0, x1, x2] S h P) : RQ G mX1_hasName d 45 [x0, x1, x2] (.int y :: .int x :: S) h P := q_icmp_eq (M := mX1_hasName) (pc := 45) dX1_hasName_45 (by decide) kt kf
theorem tX1_hasName_48 (r : RQ G mX1_hasName d 49 [x0, x1, x2] (.int (nI 1) :: S) (h) P) : RQ G mX1_hasName d 48 [x0, x1, x2] (S) h P := q_iconst (M := mX1_hasName) (pc := 48) dX1_hasName_48 (by decide) r
theorem tX1_hasName_49 (r : RQ G mX1_hasName d 53 [x0, x1, x2] S h P) : RQ G mX1_hasName d 49 [x0, x1, x2] (S) h P := q_goto (M := mX1_hasName) (pc := 49) dX1_hasName_49 (by decide) r
theorem tX1_hasName_52 (r : RQ G mX1_hasName d 53 [x0, x1, x2] (.int (nI 0) :: S) (h) P) : RQ G mX1_hasName d 52 [x0, x1, x2] (S) h P := q_iconst (M := mX1_hasName) (pc := 52) dX1_hasName_52 (by decide) r
theorem tX1_hasName_53 {x : Int32} (hb : x = nI 0 ∨ x = nI 1) (hP : P (.inl (some (.int x))) h) : RQ G mX1_hasName d 53 [x0, x1, x2] ([.int x]) h P := q_ireturn (M := mX1_hasName) (pc := 53) (ty := .boolean) dX1_hasName_53 rfl (nar_bool hb) hP
end T
theorem dX1_addLabel_0 : decode cX1_addLabel 0 = .ok (.aload_n 0, 1) := by decide +kernel
theorem dX1_addLabel_1 : decode cX1_addLabel 1 = .ok (.getfield 45, 3) := by decide +kernel
theorem dX1_addLabel_4 : decode cX1_addLabel 4 = .ok (.bipush 6, 2) := by decide +kernel
theorem dX1_addLabel_6 : decode cX1_addLabel 6 = .ok (.if_icmp .ge 23, 3) := by decide +kernel
theorem dX1_addLabel_9 : decode cX1_addLabel 9 = .ok (.aload_n 0, 1) := by decide +kernel
theorem dX1_addLabel_10 : decode cX1_addLabel 10 = .ok (.getfield 9, 3) := by decide +kernel
theorem dX1_addLabel_13 : decode cX1_addLabel 13 = .ok (.aload_n 0, 1) := by decide +kernel
theorem dX1_addLabel_14 : decode cX1_addLabel 14 = .ok (.getfield 45, 3) := by decide +kernel
theorem dX1_addLabel_17 : decode cX1_addLabel 17 = .ok (.lload_n 1, 1) := by decide +kernel
theorem dX1_addLabel_18 : decode cX1_addLabel 18 = .ok (.lastore, 1) := by decide +kernel
theorem dX1_addLabel_19 : decode cX1_addLabel 19 = .ok (.aload_n 0, 1) := by decide +kernel
theorem dX1_addLabel_20 : decode cX1_addLabel 20 = .ok (.dup, 1) := by decide +kernel
theorem dX1_addLabel_21 : decode cX1_addLabel 21 = .ok (.getfield 45, 3) := by decide +kernel
theorem dX1_addLabel_24 : decode cX1_addLabel 24 = .ok (.iconst 1, 1) := by decide +kernel
theorem dX1_addLabel_25 : decode cX1_addLabel 25 = .ok (.iadd, 1) := by decide +kernel
theorem dX1_addLabel_26 : decode cX1_addLabel 26 = .ok (.putfield 45, 3) := by decide +kernel
theorem dX1_addLabel_29 : decode cX1_addLabel 29 = .ok (.return_, 1) := by decide +kernel
section T
variable {G : GT} {d : Nat} {S : List Value} {h : AH} {P : OC → AH → Prop} {x0 x1 x2 x3 x4 x5 x6 x7 x8 x9 x10 x11 x12 x13 x14 x15 : Option Value}
theorem tX1_addLabel_0 {k : Nat} (r : RQ G mX1_addLabel d 1 [some (.ref k), x1, x2] (.ref k :: S) (h) P) : RQ G mX1_addLabel d 0 [some (.ref k), x1, x2] (S) h P := q_aload_n (M := mX1_addLabel) (pc := 0) (r0 := some k) dX1_addLabel_0 rfl rfl r
theorem tX1_addLabel_1 {i : Nat} {vs : List Value} {v : Value} (ha : At h i (.inr (0, vs))) (hv : vs[8]? = some v) (r : RQ G mX1_addLabel d 4 [x0, x1, x2] (v :: S) (h) P) : RQ G mX1_addLabel d 1 [x0, x1, x2] (.ref i :: S) h P := q_get (M := mX1_addLabel) (pc := 1) (kf := 8) dX1_addLabel_1 (show CL[0]? = some (RX1, TX1, 11) from rfl) inA1 (by decide) rfl w282 ha hv r
theorem tX1_addLabel_4 (r : RQ G mX1_addLabel d 6 [x0, x1, x2] (.int (nI 6) :: S) (h) P) : RQ G mX1_addLabel d 4 [x0, x1, x2] (S) h P := q_bipush (M := mX1_addLabel) (pc := 4) dX1_addLabel_4 (by decide) r
theorem tX1_addLabel_6 {x y : Int32} (kt : y ≤ x → RQ G mX1_addLabel d 29 [x0, x1, x2] S h P) (kf : ¬ y ≤ x → RQ G mX1_addLabel d 9 [x0, x1, x2] S h P) : RQ G mX1_addLabel d 6 [x0, x1, x2] (.int y :: .int x :: S) h P := q_icmp_ge (M := mX1_addLabel) (pc := 6) dX1_addLabel_6 (by decide) kt kf
theorem tX1_addLabel_9 {k : Nat} (r : RQ G mX1_addLabel d 10 [some (.ref k), x1, x2] (.ref k :: S) (h) P) : RQ G mX1_addLabel d 9 [some (.ref k), x1, x2] (S) h P := q_aload_n (M := mX1_addLabel) (pc := 9) (r0 := some k) dX1_addLabel_9 rfl rfl r
theorem tX1_addLabel_10 {i : Nat} {vs : List Value} {v : Value} (ha : At h i (.inr (0, vs))) (hv : vs[0]? = some v) (r : RQ G mX1_addLabel d 13 [x0, x1, x2] (v :: S) (h) P) : RQ G mX1_addLabel d 10 [x0, x1, x2] (.ref i :: S) h P := q_get (M := mX1_addLabel) (pc := 10) (kf := 0) dX1_addLabel_10 (show CL[0]? = some (RX1, TX1, 11) from rfl) inA1 (by decide) rfl w264 ha hv r
theorem tX1_addLabel_13 {k : Nat} (r : RQ G mX1_addLabel d 14 [some (.ref k), x1, x2] (.ref k :: S) (h) P) : RQ G mX1_addLabel d 13 [some (.ref k), x1, x2] (S) h P := q_aload_n (M := mX1_addLabel) (pc := 13) (r0 := some k) dX1_addLabel_13 rfl rfl r
theorem tX1_addLabel_14 {i : Nat} {vs : List Value} {v : Value} (ha : At h i (.inr (0, vs))) (hv : vs[8]? = some v) (r : RQ G mX1_addLabel d 17 [x0, x1, x2] (v :: S) (h) P) : RQ G mX1_addLabel d 14 [x0, x1, x2] (.ref i :: S) h P := q_get (M := mX1_addLabel) (pc := 14) (kf := 8) dX1_addLabel_14 (show CL[0]? = some (RX1, TX1, 11) from rfl) inA1 (by decide) rfl w282 ha hv r
theorem tX1_addLabel_17 {v : Int64} (r : RQ G mX1_addLabel d 18 [x0, some (.long v), x2] (.long v :: S) (h) P) : RQ G mX1_addLabel d 17 [x0, some (.long v), x2] (S) h P := q_lload_n (M := mX1_addLabel) (pc := 17) dX1_addLabel_17 rfl rfl r
theorem tX1_addLabel_18 {a n j : Nat} {x : Int32} {v : Int64} {f : Nat → Int64} (ha : At h a (.inl (2, n, .inr (.inl f)))) (hx : x = nI j) (hj : j < n) (hn : n < 2147483648) (r : RQ G mX1_addLabel d 19 [x0, x1, x2] (S) (hset h a (.inl (2, n, .inr (.inl (vp_updL f j v))))) P) : RQ G mX1_addLabel d 18 [x0, x1, x2] (.long v :: .int x :: .ref a :: S) h P := q_last (M := mX1_addLabel) (pc := 18) dX1_addLabel_18 ha hx hj hn r
theorem tX1_addLabel_19 {k : Nat} (r : RQ G mX1_addLabel d 20 [some (.ref k), x1, x2] (.ref k :: S) (h) P) : RQ G mX1_addLabel d 19 [some (.ref k), x1, x2] (S) h P := q_aload_n (M := mX1_addLabel) (pc := 19) (r0 := some k) dX1_addLabel_19 rfl rfl r
theorem tX1_addLabel_20 {v : Value} (hv : ok1 (some v) = true := by rfl) (r : RQ G mX1_addLabel d 21 [x0, x1, x2] (v :: v :: S) (h) P) : RQ G mX1_addLabel d 20 [x0, x1, x2] (v :: S) h P := q_dup (M := mX1_addLabel) (pc := 20) dX1_addLabel_20 hv r
theorem tX1_addLabel_21 {i : Nat} {vs : List Value} {v : Value} (ha : At h i (.inr (0, vs))) (hv : vs[8]? = some v) (r : RQ G mX1_addLabel d 24 [x0, x1, x2] (v :: S) (h) P) : RQ G mX1_addLabel d 21 [x0, x1, x2] (.ref i :: S) h P := q_get (M := mX1_addLabel) (pc := 21) (kf := 8) dX1_addLabel_21 (show CL[0]? = some (RX1, TX1, 11) from rfl) inA1 (by decide) rfl w282 ha hv r
theorem tX1_addLabel_24 (r : RQ G mX1_addLabel d 25 [x0, x1, x2] (.int (nI 1) :: S) (h) P) : RQ G mX1_addLabel d 24 [x0, x1, x2] (S) h P := q_iconst (M := mX1_addLabel) (pc := 24) dX1_addLabel_24 (by decide) r
theorem tX1_addLabel_25 {x y : Int32} (r : RQ G mX1_addLabel d 26 [x0, x1, x2] (.int (x + y) :: S) (h) P) : RQ G mX1_addLabel d 25 [x0, x1, x2] (.int y :: .int x :: S) h P := q_iadd (M := mX1_addLabel) (pc := 25) dX1_addLabel_25 r
theorem tX1_addLabel_26 {i : Nat} {vs : List Value} {v : Int32} (ha : At h i (.inr (0, vs))) (hlen : vs.length = 11) (r : RQ G mX1_addLabel d 29 [x0, x1, x2] (S) (hset h i (.inr (0, vs.set 8 (.int v)))) P) : RQ G mX1_addLabel d 26 [x0, x1, x2] (.int v :: .ref i :: S) h P := q_put (M := mX1_addLabel) (pc := 26) (kf := 8) (host := "") dX1_addLabel_26 (show CL[0]? = some (RX1, TX1, 11) from rfl) inA1 tyX1_ok nmX1 (by decide) rfl w282 rfl (tyX1_ok 8 (by decide)) (nfit_int v) (by rw [hlen]; decide) ha r
theorem tX1_addLabel_29 (hP : P (.inl none) h) : RQ G mX1_addLabel d 29 [x0, x1, x2] ([]) h P := q_return (M := mX1_addLabel) (pc := 29) dX1_addLabel_29 rfl hP
end T
theorem dX1_addJar_0 : decode cX1_addJar 0 = .ok (.aload_n 0, 1) := by decide +kernel
theorem dX1_addJar_1 : decode cX1_addJar 1 = .ok (.getfield 49, 3) := by decide +kernel
theorem dX1_addJar_4 : decode cX1_addJar 4 = .ok (.bipush 8, 2) := by decide +kernel
theorem dX1_addJar_6 : decode cX1_addJar 6 = .ok (.if_icmp .ge 23, 3) := by decide +kernel
theorem dX1_addJar_9 : decode cX1_addJar 9 = .ok (.aload_n 0, 1) := by decide +kernel
theorem dX1_addJar_10 : decode cX1_addJar 10 = .ok (.getfield 15, 3) := by decide +kernel
theorem dX1_addJar_13 : decode cX1_addJar 13 = .ok (.aload_n 0, 1) := by decide +kernel
theorem dX1_addJar_14 : decode cX1_addJar 14 = .ok (.getfield 49, 3) := by decide +kernel
theorem dX1_addJar_17 : decode cX1_addJar 17 = .ok (.lload_n 1, 1) := by decide +kernel
theorem dX1_addJar_18 : decode cX1_addJar 18 = .ok (.lastore, 1) := by decide +kernel
theorem dX1_addJar_19 : decode cX1_addJar 19 = .ok (.aload_n 0, 1) := by decide +kernel
theorem dX1_addJar_20 : decode cX1_addJar 20 = .ok (.dup, 1) := by decide +kernel
theorem dX1_addJar_21 : decode cX1_addJar 21 = .ok (.getfield 49, 3) := by decide +kernel
theorem dX1_addJar_24 : decode cX1_addJar 24 = .ok (.iconst 1, 1) := by decide +kernel
theorem dX1_addJar_25 : decode cX1_addJar 25 = .ok (.iadd, 1) := by decide +kernel
theorem dX1_addJar_26 : decode cX1_addJar 26 = .ok (.putfield 49, 3) := by decide +kernel
theorem dX1_addJar_29 : decode cX1_addJar 29 = .ok (.return_, 1) := by decide +kernel
section T
variable {G : GT} {d : Nat} {S : List Value} {h : AH} {P : OC → AH → Prop} {x0 x1 x2 x3 x4 x5 x6 x7 x8 x9 x10 x11 x12 x13 x14 x15 : Option Value}
theorem tX1_addJar_0 {k : Nat} (r : RQ G mX1_addJar d 1 [some (.ref k), x1, x2] (.ref k :: S) (h) P) : RQ G mX1_addJar d 0 [some (.ref k), x1, x2] (S) h P := q_aload_n (M := mX1_addJar) (pc := 0) (r0 := some k) dX1_addJar_0 rfl rfl r
theorem tX1_addJar_1 {i : Nat} {vs : List Value} {v : Value} (ha : At h i (.inr (0, vs))) (hv : vs[9]? = some v) (r : RQ G mX1_addJar d 4 [x0, x1, x2] (v :: S) (h) P) : RQ G mX1_addJar d 1 [x0, x1, x2] (.ref i :: S) h P := q_get (M := mX1_addJar) (pc := 1) (kf := 9) dX1_addJar_1 (show CL[0]? = some (RX1, TX1, 11) from rfl) inA1 (by decide) rfl w286 ha hv r
theorem tX1_addJar_4 (r : RQ G mX1_addJar d 6 [x0, x1, x2] (.int (nI 8) :: S) (h) P) : RQ G mX1_addJar d 4 [x0, x1, x2] (S) h P := q_bipush (M := mX1_addJar) (pc := 4) dX1_addJar_4 (by decide) r
theorem tX1_addJar_6 {x y : Int32} (kt : y ≤ x → RQ G mX1_addJar d 29 [x0, x1, x2] S h P) (kf : ¬ y ≤ x → RQ G mX1_addJar d 9 [x0, x1, x2] S h P) : RQ G mX1_addJar d 6 [x0, x1, x2] (.int y :: .int x :: S) h P := q_icmp_ge (M := mX1_addJar) (pc := 6) dX1_addJar_6 (by decide) kt kf
theorem tX1_addJar_9 {k : Nat} (r : RQ G mX1_addJar d 10 [some (.ref k), x1, x2] (.ref k :: S) (h) P) : RQ G mX1_addJar d 9 [some (.ref k), x1, x2] (S) h P := q_aload_n (M := mX1_addJar) (pc := 9) (r0 := some k) dX1_addJar_9 rfl rfl r
theorem tX1_addJar_10 {i : Nat} {vs : List Value} {v : Value} (ha : At h i (.inr (0, vs))) (hv : vs[1]? = some v) (r : RQ G mX1_addJar d 13 [x0, x1, x2] (v :: S) (h) P) : RQ G mX1_addJar d 10 [x0, x1, x2] (.ref i :: S) h P := q_get (M := mX1_addJar) (pc := 10) (kf := 1) dX1_addJar_10 (show CL[0]? = some (RX1, TX1, 11) from rfl) inA1 (by decide) rfl w266 ha hv r
theorem tX1_addJar_13 {k : Nat} (r : RQ G mX1_addJar d 14 [some (.ref k), x1, x2] (.ref k :: S) (h) P) : RQ G mX1_addJar d 13 [some (.ref k), x1, x2] (S) h P := q_aload_n (M := mX1_addJar) (pc := 13) (r0 := some k) dX1_addJar_13 rfl rfl r
theorem tX1_addJar_14 {i : Nat} {vs : List Value} {v : Value} (ha : At h i (.inr (0, vs))) (hv : vs[9]? = some v) (r : RQ G mX1_addJar d 17 [x0, x1, x2] (v :: S) (h) P) : RQ G mX1_addJar d 14 [x0, x1, x2] (.ref i :: S) h P := q_get (M := mX1_addJar) (pc := 14) (kf := 9) dX1_addJar_14 (show CL[0]? = some (RX1, TX1, 11) from rfl) inA1 (by decide) rfl w286 ha hv r
theorem tX1_addJar_17 {v : Int64} (r : RQ G mX1_addJar d 18 [x0, some (.long v), x2] (.long v :: S) (h) P) : RQ G mX1_addJar d 17 [x0, some (.long v), x2] (S) h P := q_lload_n (M := mX1_addJar) (pc := 17) dX1_addJar_17 rfl rfl r
theorem tX1_addJar_18 {a n j : Nat} {x : Int32} {v : Int64} {f : Nat → Int64} (ha : At h a (.inl (2, n, .inr (.inl f)))) (hx : x = nI j) (hj : j < n) (hn : n < 2147483648) (r : RQ G mX1_addJar d 19 [x0, x1, x2] (S) (hset h a (.inl (2, n, .inr (.inl (vp_updL f j v))))) P) : RQ G mX1_addJar d 18 [x0, x1, x2] (.long v :: .int x :: .ref a :: S) h P := q_last (M := mX1_addJar) (pc := 18) dX1_addJar_18 ha hx hj hn r
theorem tX1_addJar_19 {k : Nat} (r : RQ G mX1_addJar d 20 [some (.ref k), x1, x2] (.ref k :: S) (h) P) : RQ G mX1_addJar d 19 [some (.ref k), x1, x2] (S) h P := q_aload_n (M := mX1_addJar) (pc := 19) (r0 := some k) dX1_addJar_19 rfl rfl r
theorem tX1_addJar_20 {v : Value} (hv : ok1 (some v) = true := by rfl) (r : RQ G mX1_addJar d 21 [x0, x1, x2] (v :: v :: S) (h) P) : RQ G mX1_addJar d 20 [x0, x1, x2] (v :: S) h P := q_dup (M := mX1_addJar) (pc := 20) dX1_addJar_20 hv r
theorem tX1_addJar_21 {i : Nat} {vs : List Value} {v : Value} (ha : At h i (.inr (0, vs))) (hv : vs[9]? = some v) (r : RQ G mX1_addJar d 24 [x0, x1, x2] (v :: S) (h) P) : RQ G mX1_addJar d 21 [x0, x1, x2] (.ref i :: S) h P := q_get (M := mX1_addJar) (pc := 21) (kf := 9) dX1_addJar_21 (show CL[0]? = some (RX1, TX1, 11) from rfl) inA1 (by decide) rfl w286 ha hv r
theorem tX1_addJar_24 (r : RQ G mX1_addJar d 25 [x0, x1, x2] (.int (nI 1) :: S) (h) P) : RQ G mX1_addJar d 24 [x0, x1, x2] (S) h P := q_iconst (M := mX1_addJar) (pc := 24) dX1_addJar_24 (by decide) r
theorem tX1_addJar_25 {x y : Int32} (r : RQ G mX1_addJar d 26 [x0, x1, x2] (.int (x + y) :: S) (h) P) : RQ G mX1_addJar d 25 [x0, x1, x2] (.int y :: .int x :: S) h P := q_iadd (M := mX1_addJar) (pc := 25) dX1_addJar_25 r
theorem tX1_addJar_26 {i : Nat} {vs : List Value} {v : Int32} (ha : At h i (.inr (0, vs))) (hlen : vs.length = 11) (r : RQ G mX1_addJar d 29 [x0, x1, x2] (S) (hset h i (.inr (0, vs.set 9 (.int v)))) P) : RQ G mX1_addJar d 26 [x0, x1, x2] (.int v :: .ref i :: S) h P := q_put (M := mX1_addJar) (pc := 26) (kf := 9) (host := "") dX1_addJar_26 (show CL[0]? = some (RX1, TX1, 11) from rfl) inA1 tyX1_ok nmX1 (by decide) rfl w286 rfl (tyX1_ok 9 (by decide)) (nfit_int v) (by rw [hlen]; decide) ha r
theorem tX1_addJar_29 (hP : P (.inl none) h) : RQ G mX1_addJar d 29 [x0, x1, x2] ([]) h P := q_return (M := mX1_addJar) (pc := 29) dX1_addJar_29 rfl hP
end T
theorem dX1_setSeats_0 : decode cX1_setSeats 0 = .ok (.aload_n 0, 1) := by decide +kernel
theorem dX1_setSeats_1 : decode cX1_setSeats 1 = .ok (.getfield 49, 3) := by decide +kernel
theorem dX1_setSeats_4 : decode cX1_setSeats 4 = .ok (.ifCond .le 48, 3) := by decide +kernel
theorem dX1_setSeats_7 : decode cX1_setSeats 7 = .ok (.aload_n 0, 1) := by decide +kernel
theorem dX1_setSeats_8 : decode cX1_setSeats 8 = .ok (.getfield 49, 3) := by decide +kernel
theorem dX1_setSeats_11 : decode cX1_setSeats 11 = .ok (.bipush 8, 2) := by decide +kernel
theorem dX1_setSeats_13 : decode cX1_setSeats 13 = .ok (.if_icmp .gt 39, 3) := by decide +kernel
theorem dX1_setSeats_16 : decode cX1_setSeats 16 = .ok (.aload_n 0, 1) := by decide +kernel
theorem dX1_setSeats_17 : decode cX1_setSeats 17 = .ok (.getfield 34, 3) := by decide +kernel
theorem dX1_setSeats_20 : decode cX1_setSeats 20 = .ok (.getfield 63, 3) := by decide +kernel
theorem dX1_setSeats_23 : decode cX1_setSeats 23 = .ok (.aload_n 0, 1) := by decide +kernel
theorem dX1_setSeats_24 : decode cX1_setSeats 24 = .ok (.getfield 49, 3) := by decide +kernel
theorem dX1_setSeats_27 : decode cX1_setSeats 27 = .ok (.iconst 1, 1) := by decide +kernel
theorem dX1_setSeats_28 : decode cX1_setSeats 28 = .ok (.isub, 1) := by decide +kernel
theorem dX1_setSeats_29 : decode cX1_setSeats 29 = .ok (.aaload, 1) := by decide +kernel
theorem dX1_setSeats_30 : decode cX1_setSeats 30 = .ok (.iload_n 1, 1) := by decide +kernel
theorem dX1_setSeats_31 : decode cX1_setSeats 31 = .ok (.putfield 66, 3) := by decide +kernel
theorem dX1_setSeats_34 : decode cX1_setSeats 34 = .ok (.aload_n 0, 1) := by decide +kernel
theorem dX1_setSeats_35 : decode cX1_setSeats 35 = .ok (.getfield 34, 3) := by decide +kernel
theorem dX1_setSeats_38 : decode cX1_setSeats 38 = .ok (.getfield 63, 3) := by decide +kernel
theorem dX1_setSeats_41 : decode cX1_setSeats 41 = .ok (.aload_n 0, 1) := by decide +kernel
theorem dX1_setSeats_42 : decode cX1_setSeats 42 = .ok (.getfield 49, 3) := by decide +kernel
theorem dX1_setSeats_45 : decode cX1_setSeats 45 = .ok (.iconst 1, 1) := by decide +kernel
theorem dX1_setSeats_46 : decode cX1_setSeats 46 = .ok (.isub, 1) := by decide +kernel
theorem dX1_setSeats_47 : decode cX1_setSeats 47 = .ok (.aaload, 1) := by decide +kernel
theorem dX1_setSeats_48 : decode cX1_setSeats 48 = .ok (.aload_n 2, 1) := by decide +kernel
theorem dX1_setSeats_49 : decode cX1_setSeats 49 = .ok (.putfield 71, 3) := by decide +kernel
theorem dX1_setSeats_52 : decode cX1_setSeats 52 = .ok (.return_, 1) := by decide +kernel
section T
variable {G : GT} {d : Nat} {S : List Value} {h : AH} {P : OC → AH → Prop} {x0 x1 x2 x3 x4 x5 x6 x7 x8 x9 x10 x11 x12 x13 x14 x15 : Option Value}
theorem tX1_setSeats_0 {k : Nat} (r : RQ G mX1_setSeats d 1 [some (.ref k), x1, x2] (.ref k :: S) (h) P) : RQ G mX1_setSeats d 0 [some (.ref k), x1, x2] (S) h P := q_aload_n (M := mX1_setSeats) (pc := 0) (r0 := some k) dX1_setSeats_0 rfl rfl r
theorem tX1_setSeats_1 {i : Nat} {vs : List Value} {v : Value} (ha : At h i (.inr (0, vs))) (hv : vs[9]? = some v) (r : RQ G mX1_setSeats d 4 [x0, x1, x2] (v :: S) (h) P) : RQ G mX1_setSeats d 1 [x0, x1, x2] (.ref i :: S) h P := q_get (M := mX1_setSeats) (pc := 1) (kf := 9) dX1_setSeats_1 (show CL[0]? = some (RX1, TX1, 11) from rfl) inA1 (by decide) rfl w286 ha hv r
theorem tX1_setSeats_4 {x : Int32} (kt : x ≤ 0 → RQ G mX1_setSeats d 52 [x0, x1, x2] S h P) (kf : ¬ x ≤ 0 → RQ G mX1_setSeats d 7 [x0, x1, x2] S h P) : RQ G mX1_setSeats d 4 [x0, x1, x2] (.int x :: S) h P := q_if_le (M := mX1_setSeats) (pc := 4) dX1_setSeats_4 (by decide) kt kf
theorem tX1_setSeats_7 {k : Nat} (r : RQ G mX1_setSeats d 8 [some (.ref k), x1, x2] (.ref k :: S) (h) P) : RQ G mX1_setSeats d 7 [some (.ref k), x1, x2] (S) h P := q_aload_n (M := mX1_setSeats) (pc := 7) (r0 := some k) dX1_setSeats_7 rfl rfl r
theorem tX1_setSeats_8 {i : Nat} {vs : List Value} {v : Value} (ha : At h i (.inr (0, vs))) (hv : vs[9]? = some v) (r : RQ G mX1_setSeats d 11 [x0, x1, x2] (v :: S) (h) P) : RQ G mX1_setSeats d 8 [x0, x1, x2] (.ref i :: S) h P := q_get (M := mX1_setSeats) (pc := 8) (kf := 9) dX1_setSeats_8 (show CL[0]? = some (RX1, TX1, 11) from rfl) inA1 (by decide) rfl w286 ha hv r
theorem tX1_setSeats_11 (r : RQ G mX1_setSeats d 13 [x0, x1, x2] (.int (nI 8) :: S) (h) P) : RQ G mX1_setSeats d 11 [x0, x1, x2] (S) h P := q_bipush (M := mX1_setSeats) (pc := 11) dX1_setSeats_11 (by decide) r
theorem tX1_setSeats_13 {x y : Int32} (kt : y < x → RQ G mX1_setSeats d 52 [x0, x1, x2] S h P) (kf : ¬ y < x → RQ G mX1_setSeats d 16 [x0, x1, x2] S h P) : RQ G mX1_setSeats d 13 [x0, x1, x2] (.int y :: .int x :: S) h P := q_icmp_gt (M := mX1_setSeats) (pc := 13) dX1_setSeats_13 (by decide) kt kf
theorem tX1_setSeats_16 {k : Nat} (r : RQ G mX1_setSeats d 17 [some (.ref k), x1, x2] (.ref k :: S) (h) P) : RQ G mX1_setSeats d 16 [some (.ref k), x1, x2] (S) h P := q_aload_n (M := mX1_setSeats) (pc := 16) (r0 := some k) dX1_setSeats_16 rfl rfl r
theorem tX1_setSeats_17 {i : Nat} {vs : List Value} {v : Value} (ha : At h i (.inr (0, vs))) (hv : vs[6]? = some v) (r : RQ G mX1_setSeats d 20 [x0, x1, x2] (v :: S) (h) P) : RQ G mX1_setSeats d 17 [x0, x1, x2] (.ref i :: S) h P := q_get (M := mX1_setSeats) (pc := 17) (kf := 6) dX1_setSeats_17 (show CL[0]? = some (RX1, TX1, 11) from rfl) inA1 (by decide) rfl w277 ha hv r
theorem tX1_setSeats_20 {i : Nat} {vs : List Value} {v : Value} (ha : At h i (.inr (2, vs))) (hv : vs[0]? = some v) (r : RQ G mX1_setSeats d 23 [x0, x1, x2] (v :: S) (h) P) : RQ G mX1_setSeats d 20 [x0, x1, x2] (.ref i :: S) h P := q_getN (M := mX1_setSeats) (pc := 20) (kf := 0) dX1_setSeats_20 (show CL[2]? = some (RX3, TX3, 5) from rfl) inA3 (by decide) rfl v201 ha hv r
theorem tX1_setSeats_23 {k : Nat} (r : RQ G mX1_setSeats d 24 [some (.ref k), x1, x2] (.ref k :: S) (h) P) : RQ G mX1_setSeats d 23 [some (.ref k), x1, x2] (S) h P := q_aload_n (M := mX1_setSeats) (pc := 23) (r0 := some k) dX1_setSeats_23 rfl rfl r
theorem tX1_setSeats_24 {i : Nat} {vs : List Value} {v : Value} (ha : At h i (.inr (0, vs))) (hv : vs[9]? = some v) (r : RQ G mX1_setSeats d 27 [x0, x1, x2] (v :: S) (h) P) : RQ G mX1_setSeats d 24 [x0, x1, x2] (.ref i :: S) h P := q_get (M := mX1_setSeats) (pc := 24) (kf := 9) dX1_setSeats_24 (show CL[0]? = some (RX1, TX1, 11) from rfl) inA1 (by decide) rfl w286 ha hv r
theorem tX1_setSeats_27 (r : RQ G mX1_setSeats d 28 [x0, x1, x2] (.int (nI 1) :: S) (h) P) : RQ G mX1_setSeats d 27 [x0, x1, x2] (S) h P := q_iconst (M := mX1_setSeats) (pc := 27) dX1_setSeats_27 (by decide) r
theorem tX1_setSeats_28 {x y : Int32} (r : RQ G mX1_setSeats d 29 [x0, x1, x2] (.int (x - y) :: S) (h) P) : RQ G mX1_setSeats d 28 [x0, x1, x2] (.int y :: .int x :: S) h P := q_isub (M := mX1_setSeats) (pc := 28) dX1_setSeats_28 r
theorem tX1_setSeats_29 {a n j b : Nat} {x : Int32} {f : Nat → Option Nat} (ha : At h a (.inl (3, n, .inr (.inr (.inr (.inr f)))))) (hx : x = nI j) (hj : j < n) (hn : n < 2147483648) (hf : f j = some b) (r : RQ G mX1_setSeats d 30 [x0, x1, x2] (.ref b :: S) (h) P) : RQ G mX1_setSeats d 29 [x0, x1, x2] (.int x :: .ref a :: S) h P := q_aald3 (M := mX1_setSeats) (pc := 29) dX1_setSeats_29 ha hx hj hn (by rw [hf]; exact r)
theorem tX1_setSeats_30 {v : Int32} (r : RQ G mX1_setSeats d 31 [x0, some (.int v), x2] (.int v :: S) (h) P) : RQ G mX1_setSeats d 30 [x0, some (.int v), x2] (S) h P := q_iload_n (M := mX1_setSeats) (pc := 30) dX1_setSeats_30 rfl rfl r
theorem tX1_setSeats_31 {i : Nat} {vs : List Value} {v : Int32} (ha : At h i (.inr (3, vs))) (hlen : vs.length = 10) (r : RQ G mX1_setSeats d 34 [x0, x1, x2] (S) (hset h i (.inr (3, vs.set 4 (.int v)))) P) : RQ G mX1_setSeats d 31 [x0, x1, x2] (.int v :: .ref i :: S) h P := q_putN (M := mX1_setSeats) (pc := 31) (kf := 4) dX1_setSeats_31 (show CL[3]? = some (RX4, TX4, 10) from rfl) inA4 tyX4_ok nmX4 (by decide) rfl v163 rfl (tyX4_ok 4 (by decide)) (nfit_int v) (by rw [hlen]; decide) ha r
theorem tX1_setSeats_34 {k : Nat} (r : RQ G mX1_setSeats d 35 [some (.ref k), x1, x2] (.ref k :: S) (h) P) : RQ G mX1_setSeats d 34 [some (.ref k), x1, x2] (S) h P := q_aload_n (M := mX1_setSeats) (pc := 34) (r0 := some k) dX1_setSeats_34 rfl rfl r
theorem tX1_setSeats_35 {i : Nat} {vs : List Value} {v : Value} (ha : At h i (.inr (0, vs))) (hv : vs[6]? = some v) (r : RQ G mX1_setSeats d 38 [x0, x1, x2] (v :: S) (h) P) : RQ G mX1_setSeats d 35 [x0, x1, x2] (.ref i :: S) h P := q_get (M := mX1_setSeats) (pc := 35) (kf := 6) dX1_setSeats_35 (show CL[0]? = some (RX1, TX1, 11) from rfl) inA1 (by decide) rfl w277 ha hv r
theorem tX1_setSeats_38 {i : Nat} {vs : List Value} {v : Value} (ha : At h i (.inr (2, vs))) (hv : vs[0]? = some v) (r : RQ G mX1_setSeats d 41 [x0, x1, x2] (v :: S) (h) P) : RQ G mX1_setSeats d 38 [x0, x1, x2] (.ref i :: S) h P := q_getN (M := mX1_setSeats) (pc := 38) (kf := 0) dX1_setSeats_38 (show CL[2]? = some (RX3, TX3, 5) from rfl) inA3 (by decide) rfl v201 ha hv r
theorem tX1_setSeats_41 {k : Nat} (r : RQ G mX1_setSeats d 42 [some (.ref k), x1, x2] (.ref k :: S) (h) P) : RQ G mX1_setSeats d 41 [some (.ref k), x1, x2] (S) h P := q_aload_n (M := mX1_setSeats) (pc := 41) (r0 := some k) dX1_setSeats_41 rfl rfl r
theorem tX1_setSeats_42 {i : Nat} {vs : List Value} {v : Value} (ha : At h i (.inr (0, vs))) (hv : vs[9]? = some v) (r : RQ G mX1_setSeats d 45 [x0, x1, x2] (v :: S) (h) P) : RQ G mX1_setSeats d 42 [x0, x1, x2] (.ref i :: S) h P := q_get (M := mX1_setSeats) (pc := 42) (kf := 9) dX1_setSeats_42 (show CL[0]? = some (RX1, TX1, 11) from rfl) inA1 (by decide) rfl w286 ha hv r
theorem tX1_setSeats_45 (r : RQ G mX1_setSeats d 46 [x0, x1, x2] (.int (nI 1) :: S) (h) P) : RQ G mX1_setSeats d 45 [x0, x1, x2] (S) h P := q_iconst (M := mX1_setSeats) (pc := 45) dX1_setSeats_45 (by decide) r
theorem tX1_setSeats_46 {x y : Int32} (r : RQ G mX1_setSeats d 47 [x0, x1, x2] (.int (x - y) :: S) (h) P) : RQ G mX1_setSeats d 46 [x0, x1, x2] (.int y :: .int x :: S) h P := q_isub (M := mX1_setSeats) (pc := 46) dX1_setSeats_46 r
theorem tX1_setSeats_47 {a n j b : Nat} {x : Int32} {f : Nat → Option Nat} (ha : At h a (.inl (3, n, .inr (.inr (.inr (.inr f)))))) (hx : x = nI j) (hj : j < n) (hn : n < 2147483648) (hf : f j = some b) (r : RQ G mX1_setSeats d 48 [x0, x1, x2] (.ref b :: S) (h) P) : RQ G mX1_setSeats d 47 [x0, x1, x2] (.int x :: .ref a :: S) h P := q_aald3 (M := mX1_setSeats) (pc := 47) dX1_setSeats_47 ha hx hj hn (by rw [hf]; exact r)
theorem tX1_setSeats_48 {k : Nat} (r : RQ G mX1_setSeats d 49 [x0, x1, some (.ref k)] (.ref k :: S) (h) P) : RQ G mX1_setSeats d 48 [x0, x1, some (.ref k)] (S) h P := q_aload_n (M := mX1_setSeats) (pc := 48) (r0 := some k) dX1_setSeats_48 rfl rfl r
theorem tX1_setSeats_49 {i : Nat} {vs : List Value} {v : Nat} (ha : At h i (.inr (3, vs))) (hlen : vs.length = 10) (r : RQ G mX1_setSeats d 52 [x0, x1, x2] (S) (hset h i (.inr (3, vs.set 5 (.ref v)))) P) : RQ G mX1_setSeats d 49 [x0, x1, x2] (.ref v :: .ref i :: S) h P := q_putN (M := mX1_setSeats) (pc := 49) (kf := 5) dX1_setSeats_49 (show CL[3]? = some (RX4, TX4, 10) from rfl) inA4 tyX4_ok nmX4 (by decide) rfl v166 rfl (tyX4_ok 5 (by decide)) (nfit_obj _ v) (by rw [hlen]; decide) ha r
theorem tX1_setSeats_52 (hP : P (.inl none) h) : RQ G mX1_setSeats d 52 [x0, x1, x2] ([]) h P := q_return (M := mX1_setSeats) (pc := 52) dX1_setSeats_52 rfl hP
end T
theorem dX1_setBeans_0 : decode cX1_setBeans 0 = .ok (.aload_n 0, 1) := by decide +kernel
theorem dX1_setBeans_1 : decode cX1_setBeans 1 = .ok (.getfield 49, 3) := by decide +kernel
theorem dX1_setBeans_4 : decode cX1_setBeans 4 = .ok (.ifCond .le 42, 3) := by decide +kernel
theorem dX1_setBeans_7 : decode cX1_setBeans 7 = .ok (.aload_n 0, 1) := by decide +kernel
theorem dX1_setBeans_8 : decode cX1_setBeans 8 = .ok (.getfield 49, 3) := by decide +kernel
theorem dX1_setBeans_11 : decode cX1_setBeans 11 = .ok (.bipush 8, 2) := by decide +kernel
theorem dX1_setBeans_13 : decode cX1_setBeans 13 = .ok (.if_icmp .gt 33, 3) := by decide +kernel
theorem dX1_setBeans_16 : decode cX1_setBeans 16 = .ok (.iload_n 1, 1) := by decide +kernel
theorem dX1_setBeans_17 : decode cX1_setBeans 17 = .ok (.ifCond .lt 29, 3) := by decide +kernel
theorem dX1_setBeans_20 : decode cX1_setBeans 20 = .ok (.iload_n 1, 1) := by decide +kernel
theorem dX1_setBeans_21 : decode cX1_setBeans 21 = .ok (.bipush 6, 2) := by decide +kernel
theorem dX1_setBeans_23 : decode cX1_setBeans 23 = .ok (.if_icmp .ge 23, 3) := by decide +kernel
theorem dX1_setBeans_26 : decode cX1_setBeans 26 = .ok (.aload_n 0, 1) := by decide +kernel
theorem dX1_setBeans_27 : decode cX1_setBeans 27 = .ok (.getfield 34, 3) := by decide +kernel
theorem dX1_setBeans_30 : decode cX1_setBeans 30 = .ok (.getfield 63, 3) := by decide +kernel
theorem dX1_setBeans_33 : decode cX1_setBeans 33 = .ok (.aload_n 0, 1) := by decide +kernel
theorem dX1_setBeans_34 : decode cX1_setBeans 34 = .ok (.getfield 49, 3) := by decide +kernel
theorem dX1_setBeans_37 : decode cX1_setBeans 37 = .ok (.iconst 1, 1) := by decide +kernel
theorem dX1_setBeans_38 : decode cX1_setBeans 38 = .ok (.isub, 1) := by decide +kernel
theorem dX1_setBeans_39 : decode cX1_setBeans 39 = .ok (.aaload, 1) := by decide +kernel
theorem dX1_setBeans_40 : decode cX1_setBeans 40 = .ok (.getfield 75, 3) := by decide +kernel
theorem dX1_setBeans_43 : decode cX1_setBeans 43 = .ok (.iload_n 1, 1) := by decide +kernel
theorem dX1_setBeans_44 : decode cX1_setBeans 44 = .ok (.iload_n 2, 1) := by decide +kernel
theorem dX1_setBeans_45 : decode cX1_setBeans 45 = .ok (.iastore, 1) := by decide +kernel
theorem dX1_setBeans_46 : decode cX1_setBeans 46 = .ok (.return_, 1) := by decide +kernel
section T
variable {G : GT} {d : Nat} {S : List Value} {h : AH} {P : OC → AH → Prop} {x0 x1 x2 x3 x4 x5 x6 x7 x8 x9 x10 x11 x12 x13 x14 x15 : Option Value}
theorem tX1_setBeans_0 {k : Nat} (r : RQ G mX1_setBeans d 1 [some (.ref k), x1, x2] (.ref k :: S) (h) P) : RQ G mX1_setBeans d 0 [some (.ref k), x1, x2] (S) h P := q_aload_n (M := mX1_setBeans) (pc := 0) (r0 := some k) dX1_setBeans_0 rfl rfl r
theorem tX1_setBeans_1 {i : Nat} {vs : List Value} {v : Value} (ha : At h i (.inr (0, vs))) (hv : vs[9]? = some v) (r : RQ G mX1_setBeans d 4 [x0, x1, x2] (v :: S) (h) P) : RQ G mX1_setBeans d 1 [x0, x1, x2] (.ref i :: S) h P := q_get (M := mX1_setBeans) (pc := 1) (kf := 9) dX1_setBeans_1 (show CL[0]? = some (RX1, TX1, 11) from rfl) inA1 (by decide) rfl w286 ha hv r
theorem tX1_setBeans_4 {x : Int32} (kt : x ≤ 0 → RQ G mX1_setBeans d 46 [x0, x1, x2] S h P) (kf : ¬ x ≤ 0 → RQ G mX1_setBeans d 7 [x0, x1, x2] S h P) : RQ G mX1_setBeans d 4 [x0, x1, x2] (.int x :: S) h P := q_if_le (M := mX1_setBeans) (pc := 4) dX1_setBeans_4 (by decide) kt kf
theorem tX1_setBeans_7 {k : Nat} (r : RQ G mX1_setBeans d 8 [some (.ref k), x1, x2] (.ref k :: S) (h) P) : RQ G mX1_setBeans d 7 [some (.ref k), x1, x2] (S) h P := q_aload_n (M := mX1_setBeans) (pc := 7) (r0 := some k) dX1_setBeans_7 rfl rfl r
theorem tX1_setBeans_8 {i : Nat} {vs : List Value} {v : Value} (ha : At h i (.inr (0, vs))) (hv : vs[9]? = some v) (r : RQ G mX1_setBeans d 11 [x0, x1, x2] (v :: S) (h) P) : RQ G mX1_setBeans d 8 [x0, x1, x2] (.ref i :: S) h P := q_get (M := mX1_setBeans) (pc := 8) (kf := 9) dX1_setBeans_8 (show CL[0]? = some (RX1, TX1, 11) from rfl) inA1 (by decide) rfl w286 ha hv r
theorem tX1_setBeans_11 (r : RQ G mX1_setBeans d 13 [x0, x1, x2] (.int (nI 8) :: S) (h) P) : RQ G mX1_setBeans d 11 [x0, x1, x2] (S) h P := q_bipush (M := mX1_setBeans) (pc := 11) dX1_setBeans_11 (by decide) r
theorem tX1_setBeans_13 {x y : Int32} (kt : y < x → RQ G mX1_setBeans d 46 [x0, x1, x2] S h P) (kf : ¬ y < x → RQ G mX1_setBeans d 16 [x0, x1, x2] S h P) : RQ G mX1_setBeans d 13 [x0, x1, x2] (.int y :: .int x :: S) h P := q_icmp_gt (M := mX1_setBeans) (pc := 13) dX1_setBeans_13 (by decide) kt kf
theorem tX1_setBeans_16 {v : Int32} (r : RQ G mX1_setBeans d 17 [x0, some (.int v), x2] (.int v :: S) (h) P) : RQ G mX1_setBeans d 16 [x0, some (.int v), x2] (S) h P := q_iload_n (M := mX1_setBeans) (pc := 16) dX1_setBeans_16 rfl rfl r
theorem tX1_setBeans_17 {x : Int32} (kt : x < 0 → RQ G mX1_setBeans d 46 [x0, x1, x2] S h P) (kf : ¬ x < 0 → RQ G mX1_setBeans d 20 [x0, x1, x2] S h P) : RQ G mX1_setBeans d 17 [x0, x1, x2] (.int x :: S) h P := q_if_lt (M := mX1_setBeans) (pc := 17) dX1_setBeans_17 (by decide) kt kf
theorem tX1_setBeans_20 {v : Int32} (r : RQ G mX1_setBeans d 21 [x0, some (.int v), x2] (.int v :: S) (h) P) : RQ G mX1_setBeans d 20 [x0, some (.int v), x2] (S) h P := q_iload_n (M := mX1_setBeans) (pc := 20) dX1_setBeans_20 rfl rfl r
theorem tX1_setBeans_21 (r : RQ G mX1_setBeans d 23 [x0, x1, x2] (.int (nI 6) :: S) (h) P) : RQ G mX1_setBeans d 21 [x0, x1, x2] (S) h P := q_bipush (M := mX1_setBeans) (pc := 21) dX1_setBeans_21 (by decide) r
theorem tX1_setBeans_23 {x y : Int32} (kt : y ≤ x → RQ G mX1_setBeans d 46 [x0, x1, x2] S h P) (kf : ¬ y ≤ x → RQ G mX1_setBeans d 26 [x0, x1, x2] S h P) : RQ G mX1_setBeans d 23 [x0, x1, x2] (.int y :: .int x :: S) h P := q_icmp_ge (M := mX1_setBeans) (pc := 23) dX1_setBeans_23 (by decide) kt kf
theorem tX1_setBeans_26 {k : Nat} (r : RQ G mX1_setBeans d 27 [some (.ref k), x1, x2] (.ref k :: S) (h) P) : RQ G mX1_setBeans d 26 [some (.ref k), x1, x2] (S) h P := q_aload_n (M := mX1_setBeans) (pc := 26) (r0 := some k) dX1_setBeans_26 rfl rfl r
theorem tX1_setBeans_27 {i : Nat} {vs : List Value} {v : Value} (ha : At h i (.inr (0, vs))) (hv : vs[6]? = some v) (r : RQ G mX1_setBeans d 30 [x0, x1, x2] (v :: S) (h) P) : RQ G mX1_setBeans d 27 [x0, x1, x2] (.ref i :: S) h P := q_get (M := mX1_setBeans) (pc := 27) (kf := 6) dX1_setBeans_27 (show CL[0]? = some (RX1, TX1, 11) from rfl) inA1 (by decide) rfl w277 ha hv r
theorem tX1_setBeans_30 {i : Nat} {vs : List Value} {v : Value} (ha : At h i (.inr (2, vs))) (hv : vs[0]? = some v) (r : RQ G mX1_setBeans d 33 [x0, x1, x2] (v :: S) (h) P) : RQ G mX1_setBeans d 30 [x0, x1, x2] (.ref i :: S) h P := q_getN (M := mX1_setBeans) (pc := 30) (kf := 0) dX1_setBeans_30 (show CL[2]? = some (RX3, TX3, 5) from rfl) inA3 (by decide) rfl v201 ha hv r
theorem tX1_setBeans_33 {k : Nat} (r : RQ G mX1_setBeans d 34 [some (.ref k), x1, x2] (.ref k :: S) (h) P) : RQ G mX1_setBeans d 33 [some (.ref k), x1, x2] (S) h P := q_aload_n (M := mX1_setBeans) (pc := 33) (r0 := some k) dX1_setBeans_33 rfl rfl r
theorem tX1_setBeans_34 {i : Nat} {vs : List Value} {v : Value} (ha : At h i (.inr (0, vs))) (hv : vs[9]? = some v) (r : RQ G mX1_setBeans d 37 [x0, x1, x2] (v :: S) (h) P) : RQ G mX1_setBeans d 34 [x0, x1, x2] (.ref i :: S) h P := q_get (M := mX1_setBeans) (pc := 34) (kf := 9) dX1_setBeans_34 (show CL[0]? = some (RX1, TX1, 11) from rfl) inA1 (by decide) rfl w286 ha hv r
theorem tX1_setBeans_37 (r : RQ G mX1_setBeans d 38 [x0, x1, x2] (.int (nI 1) :: S) (h) P) : RQ G mX1_setBeans d 37 [x0, x1, x2] (S) h P := q_iconst (M := mX1_setBeans) (pc := 37) dX1_setBeans_37 (by decide) r
theorem tX1_setBeans_38 {x y : Int32} (r : RQ G mX1_setBeans d 39 [x0, x1, x2] (.int (x - y) :: S) (h) P) : RQ G mX1_setBeans d 38 [x0, x1, x2] (.int y :: .int x :: S) h P := q_isub (M := mX1_setBeans) (pc := 38) dX1_setBeans_38 r
theorem tX1_setBeans_39 {a n j b : Nat} {x : Int32} {f : Nat → Option Nat} (ha : At h a (.inl (3, n, .inr (.inr (.inr (.inr f)))))) (hx : x = nI j) (hj : j < n) (hn : n < 2147483648) (hf : f j = some b) (r : RQ G mX1_setBeans d 40 [x0, x1, x2] (.ref b :: S) (h) P) : RQ G mX1_setBeans d 39 [x0, x1, x2] (.int x :: .ref a :: S) h P := q_aald3 (M := mX1_setBeans) (pc := 39) dX1_setBeans_39 ha hx hj hn (by rw [hf]; exact r)
theorem tX1_setBeans_40 {i : Nat} {vs : List Value} {v : Value} (ha : At h i (.inr (3, vs))) (hv : vs[0]? = some v) (r : RQ G mX1_setBeans d 43 [x0, x1, x2] (v :: S) (h) P) : RQ G mX1_setBeans d 40 [x0, x1, x2] (.ref i :: S) h P := q_getN (M := mX1_setBeans) (pc := 40) (kf := 0) dX1_setBeans_40 (show CL[3]? = some (RX4, TX4, 10) from rfl) inA4 (by decide) rfl v153 ha hv r
theorem tX1_setBeans_43 {v : Int32} (r : RQ G mX1_setBeans d 44 [x0, some (.int v), x2] (.int v :: S) (h) P) : RQ G mX1_setBeans d 43 [x0, some (.int v), x2] (S) h P := q_iload_n (M := mX1_setBeans) (pc := 43) dX1_setBeans_43 rfl rfl r
theorem tX1_setBeans_44 {v : Int32} (r : RQ G mX1_setBeans d 45 [x0, x1, some (.int v)] (.int v :: S) (h) P) : RQ G mX1_setBeans d 44 [x0, x1, some (.int v)] (S) h P := q_iload_n (M := mX1_setBeans) (pc := 44) dX1_setBeans_44 rfl rfl r
theorem tX1_setBeans_45 {a n j : Nat} {x : Int32} {v : Int32} {f : Nat → Int32} (ha : At h a (.inl (0, n, .inl f))) (hx : x = nI j) (hj : j < n) (hn : n < 2147483648) (r : RQ G mX1_setBeans d 46 [x0, x1, x2] (S) (hset h a (.inl (0, n, .inl (upd f j v)))) P) : RQ G mX1_setBeans d 45 [x0, x1, x2] (.int v :: .int x :: .ref a :: S) h P := q_iast (M := mX1_setBeans) (pc := 45) dX1_setBeans_45 ha hx hj hn r
theorem tX1_setBeans_46 (hP : P (.inl none) h) : RQ G mX1_setBeans d 46 [x0, x1, x2] ([]) h P := q_return (M := mX1_setBeans) (pc := 46) dX1_setBeans_46 rfl hP
end T
theorem dX1_addLid_0 : decode cX1_addLid 0 = .ok (.aload_n 0, 1) := by decide +kernel
theorem dX1_addLid_1 : decode cX1_addLid 1 = .ok (.getfield 52, 3) := by decide +kernel
theorem dX1_addLid_4 : decode cX1_addLid 4 = .ok (.bipush 6, 2) := by decide +kernel
theorem dX1_addLid_6 : decode cX1_addLid 6 = .ok (.if_icmp .ge 79, 3) := by decide +kernel
theorem dX1_addLid_9 : decode cX1_addLid 9 = .ok (.aload_n 0, 1) := by decide +kernel
theorem dX1_addLid_10 : decode cX1_addLid 10 = .ok (.getfield 18, 3) := by decide +kernel
theorem dX1_addLid_13 : decode cX1_addLid 13 = .ok (.aload_n 0, 1) := by decide +kernel
theorem dX1_addLid_14 : decode cX1_addLid 14 = .ok (.getfield 52, 3) := by decide +kernel
theorem dX1_addLid_17 : decode cX1_addLid 17 = .ok (.lload_n 1, 1) := by decide +kernel
theorem dX1_addLid_18 : decode cX1_addLid 18 = .ok (.lastore, 1) := by decide +kernel
theorem dX1_addLid_19 : decode cX1_addLid 19 = .ok (.aload_n 0, 1) := by decide +kernel
theorem dX1_addLid_20 : decode cX1_addLid 20 = .ok (.getfield 34, 3) := by decide +kernel
theorem dX1_addLid_23 : decode cX1_addLid 23 = .ok (.getfield 78, 3) := by decide +kernel
theorem dX1_addLid_26 : decode cX1_addLid 26 = .ok (.aload_n 0, 1) := by decide +kernel
theorem dX1_addLid_27 : decode cX1_addLid 27 = .ok (.getfield 52, 3) := by decide +kernel
theorem dX1_addLid_30 : decode cX1_addLid 30 = .ok (.iload_n 3, 1) := by decide +kernel
theorem dX1_addLid_31 : decode cX1_addLid 31 = .ok (.iastore, 1) := by decide +kernel
theorem dX1_addLid_32 : decode cX1_addLid 32 = .ok (.aload_n 0, 1) := by decide +kernel
theorem dX1_addLid_33 : decode cX1_addLid 33 = .ok (.getfield 21, 3) := by decide +kernel
theorem dX1_addLid_36 : decode cX1_addLid 36 = .ok (.aload_n 0, 1) := by decide +kernel
theorem dX1_addLid_37 : decode cX1_addLid 37 = .ok (.getfield 52, 3) := by decide +kernel
theorem dX1_addLid_40 : decode cX1_addLid 40 = .ok (.iload 4, 2) := by decide +kernel
theorem dX1_addLid_42 : decode cX1_addLid 42 = .ok (.iastore, 1) := by decide +kernel
theorem dX1_addLid_43 : decode cX1_addLid 43 = .ok (.aload_n 0, 1) := by decide +kernel
theorem dX1_addLid_44 : decode cX1_addLid 44 = .ok (.getfield 25, 3) := by decide +kernel
theorem dX1_addLid_47 : decode cX1_addLid 47 = .ok (.aload_n 0, 1) := by decide +kernel
theorem dX1_addLid_48 : decode cX1_addLid 48 = .ok (.getfield 52, 3) := by decide +kernel
theorem dX1_addLid_51 : decode cX1_addLid 51 = .ok (.aload_n 0, 1) := by decide +kernel
theorem dX1_addLid_52 : decode cX1_addLid 52 = .ok (.getfield 41, 3) := by decide +kernel
theorem dX1_addLid_55 : decode cX1_addLid 55 = .ok (.getfield 81, 3) := by decide +kernel
theorem dX1_addLid_58 : decode cX1_addLid 58 = .ok (.iastore, 1) := by decide +kernel
theorem dX1_addLid_59 : decode cX1_addLid 59 = .ok (.aload_n 0, 1) := by decide +kernel
theorem dX1_addLid_60 : decode cX1_addLid 60 = .ok (.getfield 28, 3) := by decide +kernel
theorem dX1_addLid_63 : decode cX1_addLid 63 = .ok (.aload_n 0, 1) := by decide +kernel
theorem dX1_addLid_64 : decode cX1_addLid 64 = .ok (.getfield 52, 3) := by decide +kernel
theorem dX1_addLid_67 : decode cX1_addLid 67 = .ok (.aload_n 0, 1) := by decide +kernel
theorem dX1_addLid_68 : decode cX1_addLid 68 = .ok (.getfield 41, 3) := by decide +kernel
theorem dX1_addLid_71 : decode cX1_addLid 71 = .ok (.getfield 81, 3) := by decide +kernel
theorem dX1_addLid_74 : decode cX1_addLid 74 = .ok (.iastore, 1) := by decide +kernel
theorem dX1_addLid_75 : decode cX1_addLid 75 = .ok (.aload_n 0, 1) := by decide +kernel
theorem dX1_addLid_76 : decode cX1_addLid 76 = .ok (.dup, 1) := by decide +kernel
theorem dX1_addLid_77 : decode cX1_addLid 77 = .ok (.getfield 52, 3) := by decide +kernel
theorem dX1_addLid_80 : decode cX1_addLid 80 = .ok (.iconst 1, 1) := by decide +kernel
theorem dX1_addLid_81 : decode cX1_addLid 81 = .ok (.iadd, 1) := by decide +kernel
theorem dX1_addLid_82 : decode cX1_addLid 82 = .ok (.putfield 52, 3) := by decide +kernel
theorem dX1_addLid_85 : decode cX1_addLid 85 = .ok (.return_, 1) := by decide +kernel
section T
variable {G : GT} {d : Nat} {S : List Value} {h : AH} {P : OC → AH → Prop} {x0 x1 x2 x3 x4 x5 x6 x7 x8 x9 x10 x11 x12 x13 x14 x15 : Option Value}
theorem tX1_addLid_0 {k : Nat} (r : RQ G mX1_addLid d 1 [some (.ref k), x1, x2, x3, x4] (.ref k :: S) (h) P) : RQ G mX1_addLid d 0 [some (.ref k), x1, x2, x3, x4] (S) h P := q_aload_n (M := mX1_addLid) (pc := 0) (r0 := some k) dX1_addLid_0 rfl rfl r
theorem tX1_addLid_1 {i : Nat} {vs : List Value} {v : Value} (ha : At h i (.inr (0, vs))) (hv : vs[10]? = some v) (r : RQ G mX1_addLid d 4 [x0, x1, x2, x3, x4] (v :: S) (h) P) : RQ G mX1_addLid d 1 [x0, x1, x2, x3, x4] (.ref i :: S) h P := q_get (M := mX1_addLid) (pc := 1) (kf := 10) dX1_addLid_1 (show CL[0]? = some (RX1, TX1, 11) from rfl) inA1 (by decide) rfl w290 ha hv r
theorem tX1_addLid_4 (r : RQ G mX1_addLid d 6 [x0, x1, x2, x3, x4] (.int (nI 6) :: S) (h) P) : RQ G mX1_addLid d 4 [x0, x1, x2, x3, x4] (S) h P := q_bipush (M := mX1_addLid) (pc := 4) dX1_addLid_4 (by decide) r
theorem tX1_addLid_6 {x y : Int32} (kt : y ≤ x → RQ G mX1_addLid d 85 [x0, x1, x2, x3, x4] S h P) (kf : ¬ y ≤ x → RQ G mX1_addLid d 9 [x0, x1, x2, x3, x4] S h P) : RQ G mX1_addLid d 6 [x0, x1, x2, x3, x4] (.int y :: .int x :: S) h P := q_icmp_ge (M := mX1_addLid) (pc := 6) dX1_addLid_6 (by decide) kt kf
theorem tX1_addLid_9 {k : Nat} (r : RQ G mX1_addLid d 10 [some (.ref k), x1, x2, x3, x4] (.ref k :: S) (h) P) : RQ G mX1_addLid d 9 [some (.ref k), x1, x2, x3, x4] (S) h P := q_aload_n (M := mX1_addLid) (pc := 9) (r0 := some k) dX1_addLid_9 rfl rfl r
theorem tX1_addLid_10 {i : Nat} {vs : List Value} {v : Value} (ha : At h i (.inr (0, vs))) (hv : vs[2]? = some v) (r : RQ G mX1_addLid d 13 [x0, x1, x2, x3, x4] (v :: S) (h) P) : RQ G mX1_addLid d 10 [x0, x1, x2, x3, x4] (.ref i :: S) h P := q_get (M := mX1_addLid) (pc := 10) (kf := 2) dX1_addLid_10 (show CL[0]? = some (RX1, TX1, 11) from rfl) inA1 (by decide) rfl w268 ha hv r
theorem tX1_addLid_13 {k : Nat} (r : RQ G mX1_addLid d 14 [some (.ref k), x1, x2, x3, x4] (.ref k :: S) (h) P) : RQ G mX1_addLid d 13 [some (.ref k), x1, x2, x3, x4] (S) h P := q_aload_n (M := mX1_addLid) (pc := 13) (r0 := some k) dX1_addLid_13 rfl rfl r
theorem tX1_addLid_14 {i : Nat} {vs : List Value} {v : Value} (ha : At h i (.inr (0, vs))) (hv : vs[10]? = some v) (r : RQ G mX1_addLid d 17 [x0, x1, x2, x3, x4] (v :: S) (h) P) : RQ G mX1_addLid d 14 [x0, x1, x2, x3, x4] (.ref i :: S) h P := q_get (M := mX1_addLid) (pc := 14) (kf := 10) dX1_addLid_14 (show CL[0]? = some (RX1, TX1, 11) from rfl) inA1 (by decide) rfl w290 ha hv r
theorem tX1_addLid_17 {v : Int64} (r : RQ G mX1_addLid d 18 [x0, some (.long v), x2, x3, x4] (.long v :: S) (h) P) : RQ G mX1_addLid d 17 [x0, some (.long v), x2, x3, x4] (S) h P := q_lload_n (M := mX1_addLid) (pc := 17) dX1_addLid_17 rfl rfl r
theorem tX1_addLid_18 {a n j : Nat} {x : Int32} {v : Int64} {f : Nat → Int64} (ha : At h a (.inl (2, n, .inr (.inl f)))) (hx : x = nI j) (hj : j < n) (hn : n < 2147483648) (r : RQ G mX1_addLid d 19 [x0, x1, x2, x3, x4] (S) (hset h a (.inl (2, n, .inr (.inl (vp_updL f j v))))) P) : RQ G mX1_addLid d 18 [x0, x1, x2, x3, x4] (.long v :: .int x :: .ref a :: S) h P := q_last (M := mX1_addLid) (pc := 18) dX1_addLid_18 ha hx hj hn r
theorem tX1_addLid_19 {k : Nat} (r : RQ G mX1_addLid d 20 [some (.ref k), x1, x2, x3, x4] (.ref k :: S) (h) P) : RQ G mX1_addLid d 19 [some (.ref k), x1, x2, x3, x4] (S) h P := q_aload_n (M := mX1_addLid) (pc := 19) (r0 := some k) dX1_addLid_19 rfl rfl r
theorem tX1_addLid_20 {i : Nat} {vs : List Value} {v : Value} (ha : At h i (.inr (0, vs))) (hv : vs[6]? = some v) (r : RQ G mX1_addLid d 23 [x0, x1, x2, x3, x4] (v :: S) (h) P) : RQ G mX1_addLid d 20 [x0, x1, x2, x3, x4] (.ref i :: S) h P := q_get (M := mX1_addLid) (pc := 20) (kf := 6) dX1_addLid_20 (show CL[0]? = some (RX1, TX1, 11) from rfl) inA1 (by decide) rfl w277 ha hv r
theorem tX1_addLid_23 {i : Nat} {vs : List Value} {v : Value} (ha : At h i (.inr (2, vs))) (hv : vs[1]? = some v) (r : RQ G mX1_addLid d 26 [x0, x1, x2, x3, x4] (v :: S) (h) P) : RQ G mX1_addLid d 23 [x0, x1, x2, x3, x4] (.ref i :: S) h P := q_getN (M := mX1_addLid) (pc := 23) (kf := 1) dX1_addLid_23 (show CL[2]? = some (RX3, TX3, 5) from rfl) inA3 (by decide) rfl v205 ha hv r
theorem tX1_addLid_26 {k : Nat} (r : RQ G mX1_addLid d 27 [some (.ref k), x1, x2, x3, x4] (.ref k :: S) (h) P) : RQ G mX1_addLid d 26 [some (.ref k), x1, x2, x3, x4] (S) h P := q_aload_n (M := mX1_addLid) (pc := 26) (r0 := some k) dX1_addLid_26 rfl rfl r
theorem tX1_addLid_27 {i : Nat} {vs : List Value} {v : Value} (ha : At h i (.inr (0, vs))) (hv : vs[10]? = some v) (r : RQ G mX1_addLid d 30 [x0, x1, x2, x3, x4] (v :: S) (h) P) : RQ G mX1_addLid d 27 [x0, x1, x2, x3, x4] (.ref i :: S) h P := q_get (M := mX1_addLid) (pc := 27) (kf := 10) dX1_addLid_27 (show CL[0]? = some (RX1, TX1, 11) from rfl) inA1 (by decide) rfl w290 ha hv r
theorem tX1_addLid_30 {v : Int32} (r : RQ G mX1_addLid d 31 [x0, x1, x2, some (.int v), x4] (.int v :: S) (h) P) : RQ G mX1_addLid d 30 [x0, x1, x2, some (.int v), x4] (S) h P := q_iload_n (M := mX1_addLid) (pc := 30) dX1_addLid_30 rfl rfl r
theorem tX1_addLid_31 {a n j : Nat} {x : Int32} {v : Int32} {f : Nat → Int32} (ha : At h a (.inl (0, n, .inl f))) (hx : x = nI j) (hj : j < n) (hn : n < 2147483648) (r : RQ G mX1_addLid d 32 [x0, x1, x2, x3, x4] (S) (hset h a (.inl (0, n, .inl (upd f j v)))) P) : RQ G mX1_addLid d 31 [x0, x1, x2, x3, x4] (.int v :: .int x :: .ref a :: S) h P := q_iast (M := mX1_addLid) (pc := 31) dX1_addLid_31 ha hx hj hn r
theorem tX1_addLid_32 {k : Nat} (r : RQ G mX1_addLid d 33 [some (.ref k), x1, x2, x3, x4] (.ref k :: S) (h) P) : RQ G mX1_addLid d 32 [some (.ref k), x1, x2, x3, x4] (S) h P := q_aload_n (M := mX1_addLid) (pc := 32) (r0 := some k) dX1_addLid_32 rfl rfl r
theorem tX1_addLid_33 {i : Nat} {vs : List Value} {v : Value} (ha : At h i (.inr (0, vs))) (hv : vs[3]? = some v) (r : RQ G mX1_addLid d 36 [x0, x1, x2, x3, x4] (v :: S) (h) P) : RQ G mX1_addLid d 33 [x0, x1, x2, x3, x4] (.ref i :: S) h P := q_get (M := mX1_addLid) (pc := 33) (kf := 3) dX1_addLid_33 (show CL[0]? = some (RX1, TX1, 11) from rfl) inA1 (by decide) rfl w269 ha hv r
theorem tX1_addLid_36 {k : Nat} (r : RQ G mX1_addLid d 37 [some (.ref k), x1, x2, x3, x4] (.ref k :: S) (h) P) : RQ G mX1_addLid d 36 [some (.ref k), x1, x2, x3, x4] (S) h P := q_aload_n (M := mX1_addLid) (pc := 36) (r0 := some k) dX1_addLid_36 rfl rfl r
theorem tX1_addLid_37 {i : Nat} {vs : List Value} {v : Value} (ha : At h i (.inr (0, vs))) (hv : vs[10]? = some v) (r : RQ G mX1_addLid d 40 [x0, x1, x2, x3, x4] (v :: S) (h) P) : RQ G mX1_addLid d 37 [x0, x1, x2, x3, x4] (.ref i :: S) h P := q_get (M := mX1_addLid) (pc := 37) (kf := 10) dX1_addLid_37 (show CL[0]? = some (RX1, TX1, 11) from rfl) inA1 (by decide) rfl w290 ha hv r
theorem tX1_addLid_40 {v : Int32} (r : RQ G mX1_addLid d 42 [x0, x1, x2, x3, some (.int v)] (.int v :: S) (h) P) : RQ G mX1_addLid d 40 [x0, x1, x2, x3, some (.int v)] (S) h P := q_iload (M := mX1_addLid) (pc := 40) dX1_addLid_40 rfl r
theorem tX1_addLid_42 {a n j : Nat} {x : Int32} {v : Int32} {f : Nat → Int32} (ha : At h a (.inl (0, n, .inl f))) (hx : x = nI j) (hj : j < n) (hn : n < 2147483648) (r : RQ G mX1_addLid d 43 [x0, x1, x2, x3, x4] (S) (hset h a (.inl (0, n, .inl (upd f j v)))) P) : RQ G mX1_addLid d 42 [x0, x1, x2, x3, x4] (.int v :: .int x :: .ref a :: S) h P := q_iast (M := mX1_addLid) (pc := 42) dX1_addLid_42 ha hx hj hn r
theorem tX1_addLid_43 {k : Nat} (r : RQ G mX1_addLid d 44 [some (.ref k), x1, x2, x3, x4] (.ref k :: S) (h) P) : RQ G mX1_addLid d 43 [some (.ref k), x1, x2, x3, x4] (S) h P := q_aload_n (M := mX1_addLid) (pc := 43) (r0 := some k) dX1_addLid_43 rfl rfl r
theorem tX1_addLid_44 {i : Nat} {vs : List Value} {v : Value} (ha : At h i (.inr (0, vs))) (hv : vs[4]? = some v) (r : RQ G mX1_addLid d 47 [x0, x1, x2, x3, x4] (v :: S) (h) P) : RQ G mX1_addLid d 44 [x0, x1, x2, x3, x4] (.ref i :: S) h P := q_get (M := mX1_addLid) (pc := 44) (kf := 4) dX1_addLid_44 (show CL[0]? = some (RX1, TX1, 11) from rfl) inA1 (by decide) rfl w272 ha hv r
theorem tX1_addLid_47 {k : Nat} (r : RQ G mX1_addLid d 48 [some (.ref k), x1, x2, x3, x4] (.ref k :: S) (h) P) : RQ G mX1_addLid d 47 [some (.ref k), x1, x2, x3, x4] (S) h P := q_aload_n (M := mX1_addLid) (pc := 47) (r0 := some k) dX1_addLid_47 rfl rfl r
theorem tX1_addLid_48 {i : Nat} {vs : List Value} {v : Value} (ha : At h i (.inr (0, vs))) (hv : vs[10]? = some v) (r : RQ G mX1_addLid d 51 [x0, x1, x2, x3, x4] (v :: S) (h) P) : RQ G mX1_addLid d 48 [x0, x1, x2, x3, x4] (.ref i :: S) h P := q_get (M := mX1_addLid) (pc := 48) (kf := 10) dX1_addLid_48 (show CL[0]? = some (RX1, TX1, 11) from rfl) inA1 (by decide) rfl w290 ha hv r
theorem tX1_addLid_51 {k : Nat} (r : RQ G mX1_addLid d 52 [some (.ref k), x1, x2, x3, x4] (.ref k :: S) (h) P) : RQ G mX1_addLid d 51 [some (.ref k), x1, x2, x3, x4] (S) h P := q_aload_n (M := mX1_addLid) (pc := 51) (r0 := some k) dX1_addLid_51 rfl rfl r
theorem tX1_addLid_52 {i : Nat} {vs : List Value} {v : Value} (ha : At h i (.inr (0, vs))) (hv : vs[7]? = some v) (r : RQ G mX1_addLid d 55 [x0, x1, x2, x3, x4] (v :: S) (h) P) : RQ G mX1_addLid d 52 [x0, x1, x2, x3, x4] (.ref i :: S) h P := q_get (M := mX1_addLid) (pc := 52) (kf := 7) dX1_addLid_52 (show CL[0]? = some (RX1, TX1, 11) from rfl) inA1 (by decide) rfl w279 ha hv r
theorem tX1_addLid_55 {i : Nat} {vs : List Value} {v : Value} (ha : At h i (.inr (5, vs))) (hv : vs[6]? = some v) (r : RQ G mX1_addLid d 58 [x0, x1, x2, x3, x4] (v :: S) (h) P) : RQ G mX1_addLid d 55 [x0, x1, x2, x3, x4] (.ref i :: S) h P := q_getN (M := mX1_addLid) (pc := 55) (kf := 6) dX1_addLid_55 (show CL[5]? = some (RX7, TX7, 8) from rfl) inA7 (by decide) rfl v244 ha hv r
theorem tX1_addLid_58 {a n j : Nat} {x : Int32} {v : Int32} {f : Nat → Int32} (ha : At h a (.inl (0, n, .inl f))) (hx : x = nI j) (hj : j < n) (hn : n < 2147483648) (r : RQ G mX1_addLid d 59 [x0, x1, x2, x3, x4] (S) (hset h a (.inl (0, n, .inl (upd f j v)))) P) : RQ G mX1_addLid d 58 [x0, x1, x2, x3, x4] (.int v :: .int x :: .ref a :: S) h P := q_iast (M := mX1_addLid) (pc := 58) dX1_addLid_58 ha hx hj hn r
theorem tX1_addLid_59 {k : Nat} (r : RQ G mX1_addLid d 60 [some (.ref k), x1, x2, x3, x4] (.ref k :: S) (h) P) : RQ G mX1_addLid d 59 [some (.ref k), x1, x2, x3, x4] (S) h P := q_aload_n (M := mX1_addLid) (pc := 59) (r0 := some k) dX1_addLid_59 rfl rfl r
theorem tX1_addLid_60 {i : Nat} {vs : List Value} {v : Value} (ha : At h i (.inr (0, vs))) (hv : vs[5]? = some v) (r : RQ G mX1_addLid d 63 [x0, x1, x2, x3, x4] (v :: S) (h) P) : RQ G mX1_addLid d 60 [x0, x1, x2, x3, x4] (.ref i :: S) h P := q_get (M := mX1_addLid) (pc := 60) (kf := 5) dX1_addLid_60 (show CL[0]? = some (RX1, TX1, 11) from rfl) inA1 (by decide) rfl w275 ha hv r
theorem tX1_addLid_63 {k : Nat} (r : RQ G mX1_addLid d 64 [some (.ref k), x1, x2, x3, x4] (.ref k :: S) (h) P) : RQ G mX1_addLid d 63 [some (.ref k), x1, x2, x3, x4] (S) h P := q_aload_n (M := mX1_addLid) (pc := 63) (r0 := some k) dX1_addLid_63 rfl rfl r
theorem tX1_addLid_64 {i : Nat} {vs : List Value} {v : Value} (ha : At h i (.inr (0, vs))) (hv : vs[10]? = some v) (r : RQ G mX1_addLid d 67 [x0, x1, x2, x3, x4] (v :: S) (h) P) : RQ G mX1_addLid d 64 [x0, x1, x2, x3, x4] (.ref i :: S) h P := q_get (M := mX1_addLid) (pc := 64) (kf := 10) dX1_addLid_64 (show CL[0]? = some (RX1, TX1, 11) from rfl) inA1 (by decide) rfl w290 ha hv r
theorem tX1_addLid_67 {k : Nat} (r : RQ G mX1_addLid d 68 [some (.ref k), x1, x2, x3, x4] (.ref k :: S) (h) P) : RQ G mX1_addLid d 67 [some (.ref k), x1, x2, x3, x4] (S) h P := q_aload_n (M := mX1_addLid) (pc := 67) (r0 := some k) dX1_addLid_67 rfl rfl r
theorem tX1_addLid_68 {i : Nat} {vs : List Value} {v : Value} (ha : At h i (.inr (0, vs))) (hv : vs[7]? = some v) (r : RQ G mX1_addLid d 71 [x0, x1, x2, x3, x4] (v :: S) (h) P) : RQ G mX1_addLid d 68 [x0, x1, x2, x3, x4] (.ref i :: S) h P := q_get (M := mX1_addLid) (pc := 68) (kf := 7) dX1_addLid_68 (show CL[0]? = some (RX1, TX1, 11) from rfl) inA1 (by decide) rfl w279 ha hv r
theorem tX1_addLid_71 {i : Nat} {vs : List Value} {v : Value} (ha : At h i (.inr (5, vs))) (hv : vs[6]? = some v) (r : RQ G mX1_addLid d 74 [x0, x1, x2, x3, x4] (v :: S) (h) P) : RQ G mX1_addLid d 71 [x0, x1, x2, x3, x4] (.ref i :: S) h P := q_getN (M := mX1_addLid) (pc := 71) (kf := 6) dX1_addLid_71 (show CL[5]? = some (RX7, TX7, 8) from rfl) inA7 (by decide) rfl v244 ha hv r
theorem tX1_addLid_74 {a n j : Nat} {x : Int32} {v : Int32} {f : Nat → Int32} (ha : At h a (.inl (0, n, .inl f))) (hx : x = nI j) (hj : j < n) (hn : n < 2147483648) (r : RQ G mX1_addLid d 75 [x0, x1, x2, x3, x4] (S) (hset h a (.inl (0, n, .inl (upd f j v)))) P) : RQ G mX1_addLid d 74 [x0, x1, x2, x3, x4] (.int v :: .int x :: .ref a :: S) h P := q_iast (M := mX1_addLid) (pc := 74) dX1_addLid_74 ha hx hj hn r
theorem tX1_addLid_75 {k : Nat} (r : RQ G mX1_addLid d 76 [some (.ref k), x1, x2, x3, x4] (.ref k :: S) (h) P) : RQ G mX1_addLid d 75 [some (.ref k), x1, x2, x3, x4] (S) h P := q_aload_n (M := mX1_addLid) (pc := 75) (r0 := some k) dX1_addLid_75 rfl rfl r
theorem tX1_addLid_76 {v : Value} (hv : ok1 (some v) = true := by rfl) (r : RQ G mX1_addLid d 77 [x0, x1, x2, x3, x4] (v :: v :: S) (h) P) : RQ G mX1_addLid d 76 [x0, x1, x2, x3, x4] (v :: S) h P := q_dup (M := mX1_addLid) (pc := 76) dX1_addLid_76 hv r
theorem tX1_addLid_77 {i : Nat} {vs : List Value} {v : Value} (ha : At h i (.inr (0, vs))) (hv : vs[10]? = some v) (r : RQ G mX1_addLid d 80 [x0, x1, x2, x3, x4] (v :: S) (h) P) : RQ G mX1_addLid d 77 [x0, x1, x2, x3, x4] (.ref i :: S) h P := q_get (M := mX1_addLid) (pc := 77) (kf := 10) dX1_addLid_77 (show CL[0]? = some (RX1, TX1, 11) from rfl) inA1 (by decide) rfl w290 ha hv r
theorem tX1_addLid_80 (r : RQ G mX1_addLid d 81 [x0, x1, x2, x3, x4] (.int (nI 1) :: S) (h) P) : RQ G mX1_addLid d 80 [x0, x1, x2, x3, x4] (S) h P := q_iconst (M := mX1_addLid) (pc := 80) dX1_addLid_80 (by decide) r
theorem tX1_addLid_81 {x y : Int32} (r : RQ G mX1_addLid d 82 [x0, x1, x2, x3, x4] (.int (x + y) :: S) (h) P) : RQ G mX1_addLid d 81 [x0, x1, x2, x3, x4] (.int y :: .int x :: S) h P := q_iadd (M := mX1_addLid) (pc := 81) dX1_addLid_81 r
theorem tX1_addLid_82 {i : Nat} {vs : List Value} {v : Int32} (ha : At h i (.inr (0, vs))) (hlen : vs.length = 11) (r : RQ G mX1_addLid d 85 [x0, x1, x2, x3, x4] (S) (hset h i (.inr (0, vs.set 10 (.int v)))) P) : RQ G mX1_addLid d 82 [x0, x1, x2, x3, x4] (.int v :: .ref i :: S) h P := q_put (M := mX1_addLid) (pc := 82) (kf := 10) (host := "") dX1_addLid_82 (show CL[0]? = some (RX1, TX1, 11) from rfl) inA1 tyX1_ok nmX1 (by decide) rfl w290 rfl (tyX1_ok 10 (by decide)) (nfit_int v) (by rw [hlen]; decide) ha r
theorem tX1_addLid_85 (hP : P (.inl none) h) : RQ G mX1_addLid d 85 [x0, x1, x2, x3, x4] ([]) h P := q_return (M := mX1_addLid) (pc := 85) dX1_addLid_85 rfl hP
end T
theorem dX1_addRule_0 : decode cX1_addRule 0 = .ok (.aload_n 0, 1) := by decide +kernel
theorem dX1_addRule_1 : decode cX1_addRule 1 = .ok (.getfield 52, 3) := by decide +kernel
theorem dX1_addRule_4 : decode cX1_addRule 4 = .ok (.ifCond .le 49, 3) := by decide +kernel
theorem dX1_addRule_7 : decode cX1_addRule 7 = .ok (.aload_n 0, 1) := by decide +kernel
theorem dX1_addRule_8 : decode cX1_addRule 8 = .ok (.getfield 52, 3) := by decide +kernel
theorem dX1_addRule_11 : decode cX1_addRule 11 = .ok (.bipush 6, 2) := by decide +kernel
theorem dX1_addRule_13 : decode cX1_addRule 13 = .ok (.if_icmp .gt 40, 3) := by decide +kernel
theorem dX1_addRule_16 : decode cX1_addRule 16 = .ok (.aload_n 0, 1) := by decide +kernel
theorem dX1_addRule_17 : decode cX1_addRule 17 = .ok (.getfield 41, 3) := by decide +kernel
theorem dX1_addRule_20 : decode cX1_addRule 20 = .ok (.getfield 81, 3) := by decide +kernel
theorem dX1_addRule_23 : decode cX1_addRule 23 = .ok (.bipush 24, 2) := by decide +kernel
theorem dX1_addRule_25 : decode cX1_addRule 25 = .ok (.if_icmp .ge 28, 3) := by decide +kernel
theorem dX1_addRule_28 : decode cX1_addRule 28 = .ok (.aload_n 0, 1) := by decide +kernel
theorem dX1_addRule_29 : decode cX1_addRule 29 = .ok (.getfield 41, 3) := by decide +kernel
theorem dX1_addRule_32 : decode cX1_addRule 32 = .ok (.invokevirtual 84, 3) := by decide +kernel
theorem dX1_addRule_35 : decode cX1_addRule 35 = .ok (.aload_n 0, 1) := by decide +kernel
theorem dX1_addRule_36 : decode cX1_addRule 36 = .ok (.getfield 28, 3) := by decide +kernel
theorem dX1_addRule_39 : decode cX1_addRule 39 = .ok (.aload_n 0, 1) := by decide +kernel
theorem dX1_addRule_40 : decode cX1_addRule 40 = .ok (.getfield 52, 3) := by decide +kernel
theorem dX1_addRule_43 : decode cX1_addRule 43 = .ok (.iconst 1, 1) := by decide +kernel
theorem dX1_addRule_44 : decode cX1_addRule 44 = .ok (.isub, 1) := by decide +kernel
theorem dX1_addRule_45 : decode cX1_addRule 45 = .ok (.aload_n 0, 1) := by decide +kernel
theorem dX1_addRule_46 : decode cX1_addRule 46 = .ok (.getfield 41, 3) := by decide +kernel
theorem dX1_addRule_49 : decode cX1_addRule 49 = .ok (.getfield 81, 3) := by decide +kernel
theorem dX1_addRule_52 : decode cX1_addRule 52 = .ok (.iastore, 1) := by decide +kernel
theorem dX1_addRule_53 : decode cX1_addRule 53 = .ok (.return_, 1) := by decide +kernel
section T
variable {G : GT} {d : Nat} {S : List Value} {h : AH} {P : OC → AH → Prop} {x0 x1 x2 x3 x4 x5 x6 x7 x8 x9 x10 x11 x12 x13 x14 x15 : Option Value}
theorem tX1_addRule_0 {k : Nat} (r : RQ G mX1_addRule d 1 [some (.ref k)] (.ref k :: S) (h) P) : RQ G mX1_addRule d 0 [some (.ref k)] (S) h P := q_aload_n (M := mX1_addRule) (pc := 0) (r0 := some k) dX1_addRule_0 rfl rfl r
theorem tX1_addRule_1 {i : Nat} {vs : List Value} {v : Value} (ha : At h i (.inr (0, vs))) (hv : vs[10]? = some v) (r : RQ G mX1_addRule d 4 [x0] (v :: S) (h) P) : RQ G mX1_addRule d 1 [x0] (.ref i :: S) h P := q_get (M := mX1_addRule) (pc := 1) (kf := 10) dX1_addRule_1 (show CL[0]? = some (RX1, TX1, 11) from rfl) inA1 (by decide) rfl w290 ha hv r
theorem tX1_addRule_4 {x : Int32} (kt : x ≤ 0 → RQ G mX1_addRule d 53 [x0] S h P) (kf : ¬ x ≤ 0 → RQ G mX1_addRule d 7 [x0] S h P) : RQ G mX1_addRule d 4 [x0] (.int x :: S) h P := q_if_le (M := mX1_addRule) (pc := 4) dX1_addRule_4 (by decide) kt kf
theorem tX1_addRule_7 {k : Nat} (r : RQ G mX1_addRule d 8 [some (.ref k)] (.ref k :: S) (h) P) : RQ G mX1_addRule d 7 [some (.ref k)] (S) h P := q_aload_n (M := mX1_addRule) (pc := 7) (r0 := some k) dX1_addRule_7 rfl rfl r
theorem tX1_addRule_8 {i : Nat} {vs : List Value} {v : Value} (ha : At h i (.inr (0, vs))) (hv : vs[10]? = some v) (r : RQ G mX1_addRule d 11 [x0] (v :: S) (h) P) : RQ G mX1_addRule d 8 [x0] (.ref i :: S) h P := q_get (M := mX1_addRule) (pc := 8) (kf := 10) dX1_addRule_8 (show CL[0]? = some (RX1, TX1, 11) from rfl) inA1 (by decide) rfl w290 ha hv r
theorem tX1_addRule_11 (r : RQ G mX1_addRule d 13 [x0] (.int (nI 6) :: S) (h) P) : RQ G mX1_addRule d 11 [x0] (S) h P := q_bipush (M := mX1_addRule) (pc := 11) dX1_addRule_11 (by decide) r
theorem tX1_addRule_13 {x y : Int32} (kt : y < x → RQ G mX1_addRule d 53 [x0] S h P) (kf : ¬ y < x → RQ G mX1_addRule d 16 [x0] S h P) : RQ G mX1_addRule d 13 [x0] (.int y :: .int x :: S) h P := q_icmp_gt (M := mX1_addRule) (pc := 13) dX1_addRule_13 (by decide) kt kf
theorem tX1_addRule_16 {k : Nat} (r : RQ G mX1_addRule d 17 [some (.ref k)] (.ref k :: S) (h) P) : RQ G mX1_addRule d 16 [some (.ref k)] (S) h P := q_aload_n (M := mX1_addRule) (pc := 16) (r0 := some k) dX1_addRule_16 rfl rfl r
theorem tX1_addRule_17 {i : Nat} {vs : List Value} {v : Value} (ha : At h i (.inr (0, vs))) (hv : vs[7]? = some v) (r : RQ G mX1_addRule d 20 [x0] (v :: S) (h) P) : RQ G mX1_addRule d 17 [x0] (.ref i :: S) h P := q_get (M := mX1_addRule) (pc := 17) (kf := 7) dX1_addRule_17 (show CL[0]? = some (RX1, TX1, 11) from rfl) inA1 (by decide) rfl w279 ha hv r
theorem tX1_addRule_20 {i : Nat} {vs : List Value} {v : Value} (ha : At h i (.inr (5, vs))) (hv : vs[6]? = some v) (r : RQ G mX1_addRule d 23 [x0] (v :: S) (h) P) : RQ G mX1_addRule d 20 [x0] (.ref i :: S) h P := q_getN (M := mX1_addRule) (pc := 20) (kf := 6) dX1_addRule_20 (show CL[5]? = some (RX7, TX7, 8) from rfl) inA7 (by decide) rfl v244 ha hv r
theorem tX1_addRule_23 (r : RQ G mX1_addRule d 25 [x0] (.int (nI 24) :: S) (h) P) : RQ G mX1_addRule d 23 [x0] (S) h P := q_bipush (M := mX1_addRule) (pc := 23) dX1_addRule_23 (by decide) r
theorem tX1_addRule_25 {x y : Int32} (kt : y ≤ x → RQ G mX1_addRule d 53 [x0] S h P) (kf : ¬ y ≤ x → RQ G mX1_addRule d 28 [x0] S h P) : RQ G mX1_addRule d 25 [x0] (.int y :: .int x :: S) h P := q_icmp_ge (M := mX1_addRule) (pc := 25) dX1_addRule_25 (by decide) kt kf
theorem tX1_addRule_28 {k : Nat} (r : RQ G mX1_addRule d 29 [some (.ref k)] (.ref k :: S) (h) P) : RQ G mX1_addRule d 28 [some (.ref k)] (S) h P := q_aload_n (M := mX1_addRule) (pc := 28) (r0 := some k) dX1_addRule_28 rfl rfl r
theorem tX1_addRule_29 {i : Nat} {vs : List Value} {v : Value} (ha : At h i (.inr (0, vs))) (hv : vs[7]? = some v) (r : RQ G mX1_addRule d 32 [x0] (v :: S) (h) P) : RQ G mX1_addRule d 29 [x0] (.ref i :: S) h P := q_get (M := mX1_addRule) (pc := 29) (kf := 7) dX1_addRule_29 (show CL[0]? = some (RX1, TX1, 11) from rfl) inA1 (by decide) rfl w279 ha hv r
theorem tX1_addRule_32 {b d2 : Nat} {vs : List Value}  {Q : AH → Prop} (hd : d2 + 1 ≤ d) (ha : At h b (.inr (5, vs))) (call : RQ G mX7_beginRule d2 0 [some (.ref b)] [] h (Rv Q)) (k : ∀ h1, Q h1 → RQ G mX1_addRule d 35 [x0] S h1 P) (hst : (S.map fun v => v.category).sum ≤ 8 := by exact Nat.le_of_ble_eq_true rfl)  : RQ G mX1_addRule d 32 [x0] (.ref b :: S) h P := q_callV (M := mX1_addRule) (pc := 32) (M2 := mX7_beginRule) (As := []) (n := 0) dX1_addRule_32 rfl ⟨by decide, by decide, by decide, rfl⟩ rfl w1123 w1124 w1125 w50 w1126 (show CL[5]? = some (RX7, TX7, 8) from rfl) hd (by decide) (Nat.le_of_ble_eq_true rfl) rfl ha hst call (callk_v k)
theorem tX1_addRule_35 {k : Nat} (r : RQ G mX1_addRule d 36 [some (.ref k)] (.ref k :: S) (h) P) : RQ G mX1_addRule d 35 [some (.ref k)] (S) h P := q_aload_n (M := mX1_addRule) (pc := 35) (r0 := some k) dX1_addRule_35 rfl rfl r
theorem tX1_addRule_36 {i : Nat} {vs : List Value} {v : Value} (ha : At h i (.inr (0, vs))) (hv : vs[5]? = some v) (r : RQ G mX1_addRule d 39 [x0] (v :: S) (h) P) : RQ G mX1_addRule d 36 [x0] (.ref i :: S) h P := q_get (M := mX1_addRule) (pc := 36) (kf := 5) dX1_addRule_36 (show CL[0]? = some (RX1, TX1, 11) from rfl) inA1 (by decide) rfl w275 ha hv r
theorem tX1_addRule_39 {k : Nat} (r : RQ G mX1_addRule d 40 [some (.ref k)] (.ref k :: S) (h) P) : RQ G mX1_addRule d 39 [some (.ref k)] (S) h P := q_aload_n (M := mX1_addRule) (pc := 39) (r0 := some k) dX1_addRule_39 rfl rfl r
theorem tX1_addRule_40 {i : Nat} {vs : List Value} {v : Value} (ha : At h i (.inr (0, vs))) (hv : vs[10]? = some v) (r : RQ G mX1_addRule d 43 [x0] (v :: S) (h) P) : RQ G mX1_addRule d 40 [x0] (.ref i :: S) h P := q_get (M := mX1_addRule) (pc := 40) (kf := 10) dX1_addRule_40 (show CL[0]? = some (RX1, TX1, 11) from rfl) inA1 (by decide) rfl w290 ha hv r
theorem tX1_addRule_43 (r : RQ G mX1_addRule d 44 [x0] (.int (nI 1) :: S) (h) P) : RQ G mX1_addRule d 43 [x0] (S) h P := q_iconst (M := mX1_addRule) (pc := 43) dX1_addRule_43 (by decide) r
theorem tX1_addRule_44 {x y : Int32} (r : RQ G mX1_addRule d 45 [x0] (.int (x - y) :: S) (h) P) : RQ G mX1_addRule d 44 [x0] (.int y :: .int x :: S) h P := q_isub (M := mX1_addRule) (pc := 44) dX1_addRule_44 r
theorem tX1_addRule_45 {k : Nat} (r : RQ G mX1_addRule d 46 [some (.ref k)] (.ref k :: S) (h) P) : RQ G mX1_addRule d 45 [some (.ref k)] (S) h P := q_aload_n (M := mX1_addRule) (pc := 45) (r0 := some k) dX1_addRule_45 rfl rfl r
theorem tX1_addRule_46 {i : Nat} {vs : List Value} {v : Value} (ha : At h i (.inr (0, vs))) (hv : vs[7]? = some v) (r : RQ G mX1_addRule d 49 [x0] (v :: S) (h) P) : RQ G mX1_addRule d 46 [x0] (.ref i :: S) h P := q_get (M := mX1_addRule) (pc := 46) (kf := 7) dX1_addRule_46 (show CL[0]? = some (RX1, TX1, 11) from rfl) inA1 (by decide) rfl w279 ha hv r
theorem tX1_addRule_49 {i : Nat} {vs : List Value} {v : Value} (ha : At h i (.inr (5, vs))) (hv : vs[6]? = some v) (r : RQ G mX1_addRule d 52 [x0] (v :: S) (h) P) : RQ G mX1_addRule d 49 [x0] (.ref i :: S) h P := q_getN (M := mX1_addRule) (pc := 49) (kf := 6) dX1_addRule_49 (show CL[5]? = some (RX7, TX7, 8) from rfl) inA7 (by decide) rfl v244 ha hv r
theorem tX1_addRule_52 {a n j : Nat} {x : Int32} {v : Int32} {f : Nat → Int32} (ha : At h a (.inl (0, n, .inl f))) (hx : x = nI j) (hj : j < n) (hn : n < 2147483648) (r : RQ G mX1_addRule d 53 [x0] (S) (hset h a (.inl (0, n, .inl (upd f j v)))) P) : RQ G mX1_addRule d 52 [x0] (.int v :: .int x :: .ref a :: S) h P := q_iast (M := mX1_addRule) (pc := 52) dX1_addRule_52 ha hx hj hn r
theorem tX1_addRule_53 (hP : P (.inl none) h) : RQ G mX1_addRule d 53 [x0] ([]) h P := q_return (M := mX1_addRule) (pc := 53) dX1_addRule_53 rfl hP
end T
