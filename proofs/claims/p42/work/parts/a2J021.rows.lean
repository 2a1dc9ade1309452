theorem dJ4_append_bf812_0 : decode cJ4_append_bf812 0 = .ok (.aload_n 0, 1) := by decide +kernel
theorem dJ4_append_bf812_1 : decode cJ4_append_bf812 1 = .ok (.iload_n 1, 1) := by decide +kernel
theorem dJ4_append_bf812_2 : decode cJ4_append_bf812 2 = .ok (.invokespecial 53, 3) := by decide +kernel
theorem dJ4_append_bf812_5 : decode cJ4_append_bf812 5 = .ok (.pop, 1) := by decide +kernel
theorem dJ4_append_bf812_6 : decode cJ4_append_bf812 6 = .ok (.aload_n 0, 1) := by decide +kernel
theorem dJ4_append_bf812_7 : decode cJ4_append_bf812 7 = .ok (.areturn, 1) := by decide +kernel
section T
variable {G : GT} {d : Nat} {S : List Value} {h : AH} {P : OC → AH → Prop} {x0 x1 x2 x3 x4 x5 x6 x7 x8 x9 x10 x11 x12 x13 x14 x15 x16 x17 x18 x19 : Option Value}
theorem tJ4_append_bf812_0 {k : Nat} (r : RQ G mJ4_append_bf812 d 1 [some (.ref k), x1] (.ref k :: S) (h) P) : RQ G mJ4_append_bf812 d 0 [some (.ref k), x1] (S) h P := q_aload_n (M := mJ4_append_bf812) (pc := 0) (r0 := some k) dJ4_append_bf812_0 rfl rfl r
theorem tJ4_append_bf812_0q {r0 : Option Nat} (r : RQ G mJ4_append_bf812 d 1 [some (va_rf r0), x1] (va_rf r0 :: S) (h) P) : RQ G mJ4_append_bf812 d 0 [some (va_rf r0), x1] (S) h P := q_aload_n (M := mJ4_append_bf812) (pc := 0) dJ4_append_bf812_0 rfl rfl r
theorem tJ4_append_bf812_1 {v : Int32} (r : RQ G mJ4_append_bf812 d 2 [x0, some (.int v)] (.int v :: S) (h) P) : RQ G mJ4_append_bf812 d 1 [x0, some (.int v)] (S) h P := q_iload_n (M := mJ4_append_bf812) (pc := 1) dJ4_append_bf812_1 rfl rfl r
theorem tJ4_append_bf812_2 {b d2 : Nat} {vs : List Value} {a0 : Int32} {Q : Nat → AH → Prop} (hd : d2 + 1 ≤ d) (ha : At h b (.inr (17, vs))) (call : RQ G mJ5_append_c97b9 d2 0 [some (.ref b), some (.int a0), none, none] [] h (Rr Q)) (k : ∀ x h1, Q x h1 → RQ G mJ4_append_bf812 d 5 [x0, x1] (.ref x :: S) h1 P) (hst : (S.map fun v => v.category).sum ≤ 8 := by exact Nat.le_of_ble_eq_true rfl)  : RQ G mJ4_append_bf812 d 2 [x0, x1] (.int a0 :: .ref b :: S) h P := qq_callSU (M := mJ4_append_bf812) (pc := 2) (M2 := mJ5_append_c97b9) (As := [.int a0]) (n := 1) dJ4_append_bf812_2 (by decide) ⟨by decide, rfl⟩ rfl w1503 w1728 w1274 w1504 w53 w1505 (show CL[17]? = some (RJ4, TJ4, 4) from rfl) hd (by decide) (Nat.le_of_ble_eq_true rfl) rfl ha hst call (callk_r k)
theorem tJ4_append_bf812_5 {v : Value} (hv : ok1 (some v) = true := by rfl) (r : RQ G mJ4_append_bf812 d 6 [x0, x1] (S) (h) P) : RQ G mJ4_append_bf812 d 5 [x0, x1] (v :: S) h P := q_pop (M := mJ4_append_bf812) (pc := 5) dJ4_append_bf812_5 hv r
theorem tJ4_append_bf812_6 {k : Nat} (r : RQ G mJ4_append_bf812 d 7 [some (.ref k), x1] (.ref k :: S) (h) P) : RQ G mJ4_append_bf812 d 6 [some (.ref k), x1] (S) h P := q_aload_n (M := mJ4_append_bf812) (pc := 6) (r0 := some k) dJ4_append_bf812_6 rfl rfl r
theorem tJ4_append_bf812_6q {r0 : Option Nat} (r : RQ G mJ4_append_bf812 d 7 [some (va_rf r0), x1] (va_rf r0 :: S) (h) P) : RQ G mJ4_append_bf812 d 6 [some (va_rf r0), x1] (S) h P := q_aload_n (M := mJ4_append_bf812) (pc := 6) dJ4_append_bf812_6 rfl rfl r
theorem tJ4_append_bf812_7 {k : Nat} (hP : P (.inl (some (.ref k))) h) : RQ G mJ4_append_bf812 d 7 [x0, x1] ([.ref k]) h P := q_areturn (M := mJ4_append_bf812) (pc := 7) (r0 := some k) dJ4_append_bf812_7 rfl hP
end T
