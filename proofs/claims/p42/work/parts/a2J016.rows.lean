theorem dJ0_isLatin1_aae02_0 : decode cJ0_isLatin1_aae02 0 = .ok (.getstatic 38, 3) := by decide +kernel
theorem dJ0_isLatin1_aae02_3 : decode cJ0_isLatin1_aae02 3 = .ok (.ifCond .eq 14, 3) := by decide +kernel
theorem dJ0_isLatin1_aae02_6 : decode cJ0_isLatin1_aae02 6 = .ok (.aload_n 0, 1) := by decide +kernel
theorem dJ0_isLatin1_aae02_7 : decode cJ0_isLatin1_aae02 7 = .ok (.getfield 15, 3) := by decide +kernel
theorem dJ0_isLatin1_aae02_10 : decode cJ0_isLatin1_aae02 10 = .ok (.ifCond .ne 7, 3) := by decide +kernel
theorem dJ0_isLatin1_aae02_13 : decode cJ0_isLatin1_aae02 13 = .ok (.iconst 1, 1) := by decide +kernel
theorem dJ0_isLatin1_aae02_14 : decode cJ0_isLatin1_aae02 14 = .ok (.goto 4, 3) := by decide +kernel
theorem dJ0_isLatin1_aae02_17 : decode cJ0_isLatin1_aae02 17 = .ok (.iconst 0, 1) := by decide +kernel
theorem dJ0_isLatin1_aae02_18 : decode cJ0_isLatin1_aae02 18 = .ok (.ireturn, 1) := by decide +kernel
section T
variable {G : GT} {d : Nat} {S : List Value} {h : AH} {P : OC → AH → Prop} {x0 x1 x2 x3 x4 x5 x6 x7 x8 x9 x10 x11 x12 x13 x14 x15 x16 x17 x18 x19 : Option Value}
theorem tJ0_isLatin1_aae02_0 (r : RQ G mJ0_isLatin1_aae02 d 3 [x0] (.int 1 :: S) (h) P) : RQ G mJ0_isLatin1_aae02 d 0 [x0] (S) h P := q_gcs (M := mJ0_isLatin1_aae02) (pc := 0) dJ0_isLatin1_aae02_0 w866 r
theorem tJ0_isLatin1_aae02_3 {x : Int32} (kt : x = 0 → RQ G mJ0_isLatin1_aae02 d 17 [x0] S h P) (kf : ¬ x = 0 → RQ G mJ0_isLatin1_aae02 d 6 [x0] S h P) : RQ G mJ0_isLatin1_aae02 d 3 [x0] (.int x :: S) h P := q_if_eq (M := mJ0_isLatin1_aae02) (pc := 3) dJ0_isLatin1_aae02_3 (by decide) kt kf
theorem tJ0_isLatin1_aae02_6 {k : Nat} (r : RQ G mJ0_isLatin1_aae02 d 7 [some (.ref k)] (.ref k :: S) (h) P) : RQ G mJ0_isLatin1_aae02 d 6 [some (.ref k)] (S) h P := q_aload_n (M := mJ0_isLatin1_aae02) (pc := 6) (r0 := some k) dJ0_isLatin1_aae02_6 rfl rfl r
theorem tJ0_isLatin1_aae02_6q {r0 : Option Nat} (r : RQ G mJ0_isLatin1_aae02 d 7 [some (va_rf r0)] (va_rf r0 :: S) (h) P) : RQ G mJ0_isLatin1_aae02 d 6 [some (va_rf r0)] (S) h P := q_aload_n (M := mJ0_isLatin1_aae02) (pc := 6) dJ0_isLatin1_aae02_6 rfl rfl r
theorem tJ0_isLatin1_aae02_7 {i : Nat} {vs : List Value} {v : Value} (ha : At h i (.inr (16, vs))) (hv : vs[1]? = some v) (r : RQ G mJ0_isLatin1_aae02 d 10 [x0] (v :: S) (h) P) : RQ G mJ0_isLatin1_aae02 d 7 [x0] (.ref i :: S) h P := q_get (M := mJ0_isLatin1_aae02) (pc := 7) (kf := 1) dJ0_isLatin1_aae02_7 (show CL[16]? = some (RJ0, TJ0, 4) from rfl) inAJ0 (by decide) rfl w1460 ha hv r
theorem tJ0_isLatin1_aae02_7o {i : Nat} (hi : i < 88) (r : RQ G mJ0_isLatin1_aae02 d 10 [x0] (.int 0 :: S) (h) P) : RQ G mJ0_isLatin1_aae02 d 7 [x0] (.ref (OLD + (100 + i)) :: S) h P := q_cod (M := mJ0_isLatin1_aae02) (pc := 7) hi dJ0_isLatin1_aae02_7 w1460 r
theorem tJ0_isLatin1_aae02_10 {x : Int32} (kt : ¬ x = 0 → RQ G mJ0_isLatin1_aae02 d 17 [x0] S h P) (kf : x = 0 → RQ G mJ0_isLatin1_aae02 d 13 [x0] S h P) : RQ G mJ0_isLatin1_aae02 d 10 [x0] (.int x :: S) h P := q_if_ne (M := mJ0_isLatin1_aae02) (pc := 10) dJ0_isLatin1_aae02_10 (by decide) kt kf
theorem tJ0_isLatin1_aae02_13 (r : RQ G mJ0_isLatin1_aae02 d 14 [x0] (.int (nI 1) :: S) (h) P) : RQ G mJ0_isLatin1_aae02 d 13 [x0] (S) h P := q_iconst (M := mJ0_isLatin1_aae02) (pc := 13) dJ0_isLatin1_aae02_13 (by decide) r
theorem tJ0_isLatin1_aae02_14 (r : RQ G mJ0_isLatin1_aae02 d 18 [x0] S h P) : RQ G mJ0_isLatin1_aae02 d 14 [x0] (S) h P := q_goto (M := mJ0_isLatin1_aae02) (pc := 14) dJ0_isLatin1_aae02_14 (by decide) r
theorem tJ0_isLatin1_aae02_17 (r : RQ G mJ0_isLatin1_aae02 d 18 [x0] (.int (nI 0) :: S) (h) P) : RQ G mJ0_isLatin1_aae02 d 17 [x0] (S) h P := q_iconst (M := mJ0_isLatin1_aae02) (pc := 17) dJ0_isLatin1_aae02_17 (by decide) r
theorem tJ0_isLatin1_aae02_18 {x : Int32} (hb : x = nI 0 ∨ x = nI 1) (hP : P (.inl (some (.int x))) h) : RQ G mJ0_isLatin1_aae02 d 18 [x0] ([.int x]) h P := q_ireturn (M := mJ0_isLatin1_aae02) (pc := 18) (ty := .boolean) dJ0_isLatin1_aae02_18 rfl (nar_bool hb) hP
end T
