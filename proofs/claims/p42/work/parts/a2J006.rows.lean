theorem dJ4_append_cf1ce_0 : decode cJ4_append_cf1ce 0 = .ok (.aload_n 0, 1) := by decide +kernel
theorem dJ4_append_cf1ce_1 : decode cJ4_append_cf1ce 1 = .ok (.aload_n 1, 1) := by decide +kernel
theorem dJ4_append_cf1ce_2 : decode cJ4_append_cf1ce 2 = .ok (.invokevirtual 23, 3) := by decide +kernel
theorem dJ4_append_cf1ce_5 : decode cJ4_append_cf1ce 5 = .ok (.areturn, 1) := by decide +kernel
section T
variable {G : GT} {d : Nat} {S : List Value} {h : AH} {P : OC → AH → Prop} {x0 x1 x2 x3 x4 x5 x6 x7 x8 x9 x10 x11 x12 x13 x14 x15 x16 x17 x18 x19 : Option Value}
theorem tJ4_append_cf1ce_0 {k : Nat} (r : RQ G mJ4_append_cf1ce d 1 [some (.ref k), x1] (.ref k :: S) (h) P) : RQ G mJ4_append_cf1ce d 0 [some (.ref k), x1] (S) h P := q_aload_n (M := mJ4_append_cf1ce) (pc := 0) (r0 := some k) dJ4_append_cf1ce_0 rfl rfl r
theorem tJ4_append_cf1ce_0q {r0 : Option Nat} (r : RQ G mJ4_append_cf1ce d 1 [some (va_rf r0), x1] (va_rf r0 :: S) (h) P) : RQ G mJ4_append_cf1ce d 0 [some (va_rf r0), x1] (S) h P := q_aload_n (M := mJ4_append_cf1ce) (pc := 0) dJ4_append_cf1ce_0 rfl rfl r
theorem tJ4_append_cf1ce_1 {k : Nat} (r : RQ G mJ4_append_cf1ce d 2 [x0, some (.ref k)] (.ref k :: S) (h) P) : RQ G mJ4_append_cf1ce d 1 [x0, some (.ref k)] (S) h P := q_aload_n (M := mJ4_append_cf1ce) (pc := 1) (r0 := some k) dJ4_append_cf1ce_1 rfl rfl r
theorem tJ4_append_cf1ce_1q {r0 : Option Nat} (r : RQ G mJ4_append_cf1ce d 2 [x0, some (va_rf r0)] (va_rf r0 :: S) (h) P) : RQ G mJ4_append_cf1ce d 1 [x0, some (va_rf r0)] (S) h P := q_aload_n (M := mJ4_append_cf1ce) (pc := 1) dJ4_append_cf1ce_1 rfl rfl r
theorem tJ4_append_cf1ce_2 {b d2 : Nat} {vs : List Value} {a0 : Nat} {Q : Nat → AH → Prop} (hd : d2 + 1 ≤ d) (ha : At h b (.inr (17, vs))) (call : RQ G mJ4_append_15ec4 d2 0 [some (.ref b), some (.ref a0)] [] h (Rr Q)) (k : ∀ x h1, Q x h1 → RQ G mJ4_append_cf1ce d 5 [x0, x1] (.ref x :: S) h1 P) (hst : (S.map fun v => v.category).sum ≤ 8 := by exact Nat.le_of_ble_eq_true rfl)  : RQ G mJ4_append_cf1ce d 2 [x0, x1] (.ref a0 :: .ref b :: S) h P := q_callV (M := mJ4_append_cf1ce) (pc := 2) (M2 := mJ4_append_15ec4) (As := [.ref a0]) (n := 1) dJ4_append_cf1ce_2 rfl ⟨by decide, by decide, by decide, rfl⟩ rfl w1665 w1270 w1271 w54 w1272 (show CL[17]? = some (RJ4, TJ4, 4) from rfl) hd (by decide) (Nat.le_of_ble_eq_true rfl) rfl ha hst call (callk_r k)
theorem tJ4_append_cf1ce_5 {k : Nat} (hP : P (.inl (some (.ref k))) h) : RQ G mJ4_append_cf1ce d 5 [x0, x1] ([.ref k]) h P := q_areturn (M := mJ4_append_cf1ce) (pc := 5) (r0 := some k) dJ4_append_cf1ce_5 rfl hP
end T
