theorem dJ1_canEncode_fc78d_0 : decode cJ1_canEncode_fc78d 0 = .ok (.iload_n 0, 1) := by decide +kernel
theorem dJ1_canEncode_fc78d_1 : decode cJ1_canEncode_fc78d 1 = .ok (.sipush 255, 3) := by decide +kernel
theorem dJ1_canEncode_fc78d_4 : decode cJ1_canEncode_fc78d 4 = .ok (.if_icmp .gt 7, 3) := by decide +kernel
theorem dJ1_canEncode_fc78d_7 : decode cJ1_canEncode_fc78d 7 = .ok (.iconst 1, 1) := by decide +kernel
theorem dJ1_canEncode_fc78d_8 : decode cJ1_canEncode_fc78d 8 = .ok (.goto 4, 3) := by decide +kernel
theorem dJ1_canEncode_fc78d_11 : decode cJ1_canEncode_fc78d 11 = .ok (.iconst 0, 1) := by decide +kernel
theorem dJ1_canEncode_fc78d_12 : decode cJ1_canEncode_fc78d 12 = .ok (.ireturn, 1) := by decide +kernel
section T
variable {G : GT} {d : Nat} {S : List Value} {h : AH} {P : OC → AH → Prop} {x0 x1 x2 x3 x4 x5 x6 x7 x8 x9 x10 x11 x12 x13 x14 x15 x16 x17 x18 x19 : Option Value}
theorem tJ1_canEncode_fc78d_0 {v : Int32} (r : RQ G mJ1_canEncode_fc78d d 1 [some (.int v)] (.int v :: S) (h) P) : RQ G mJ1_canEncode_fc78d d 0 [some (.int v)] (S) h P := q_iload_n (M := mJ1_canEncode_fc78d) (pc := 0) dJ1_canEncode_fc78d_0 rfl rfl r
theorem tJ1_canEncode_fc78d_1 (r : RQ G mJ1_canEncode_fc78d d 4 [x0] (.int (nI 255) :: S) (h) P) : RQ G mJ1_canEncode_fc78d d 1 [x0] (S) h P := q_sipush (M := mJ1_canEncode_fc78d) (pc := 1) dJ1_canEncode_fc78d_1 (by decide) r
theorem tJ1_canEncode_fc78d_4 {x y : Int32} (kt : y < x → RQ G mJ1_canEncode_fc78d d 11 [x0] S h P) (kf : ¬ y < x → RQ G mJ1_canEncode_fc78d d 7 [x0] S h P) : RQ G mJ1_canEncode_fc78d d 4 [x0] (.int y :: .int x :: S) h P := q_icmp_gt (M := mJ1_canEncode_fc78d) (pc := 4) dJ1_canEncode_fc78d_4 (by decide) kt kf
theorem tJ1_canEncode_fc78d_7 (r : RQ G mJ1_canEncode_fc78d d 8 [x0] (.int (nI 1) :: S) (h) P) : RQ G mJ1_canEncode_fc78d d 7 [x0] (S) h P := q_iconst (M := mJ1_canEncode_fc78d) (pc := 7) dJ1_canEncode_fc78d_7 (by decide) r
theorem tJ1_canEncode_fc78d_8 (r : RQ G mJ1_canEncode_fc78d d 12 [x0] S h P) : RQ G mJ1_canEncode_fc78d d 8 [x0] (S) h P := q_goto (M := mJ1_canEncode_fc78d) (pc := 8) dJ1_canEncode_fc78d_8 (by decide) r
theorem tJ1_canEncode_fc78d_11 (r : RQ G mJ1_canEncode_fc78d d 12 [x0] (.int (nI 0) :: S) (h) P) : RQ G mJ1_canEncode_fc78d d 11 [x0] (S) h P := q_iconst (M := mJ1_canEncode_fc78d) (pc := 11) dJ1_canEncode_fc78d_11 (by decide) r
theorem tJ1_canEncode_fc78d_12 {x : Int32} (hb : x = nI 0 ∨ x = nI 1) (hP : P (.inl (some (.int x))) h) : RQ G mJ1_canEncode_fc78d d 12 [x0] ([.int x]) h P := q_ireturn (M := mJ1_canEncode_fc78d) (pc := 12) (ty := .boolean) dJ1_canEncode_fc78d_12 rfl (nar_bool hb) hP
end T
