theorem dJ4_init_da8c8_0 : decode cJ4_init_da8c8 0 = .ok (.aload_n 0, 1) := by decide +kernel
theorem dJ4_init_da8c8_1 : decode cJ4_init_da8c8 1 = .ok (.bipush 16, 2) := by decide +kernel
theorem dJ4_init_da8c8_3 : decode cJ4_init_da8c8 3 = .ok (.invokespecial 1, 3) := by decide +kernel
theorem dJ4_init_da8c8_6 : decode cJ4_init_da8c8 6 = .ok (.return_, 1) := by decide +kernel
section T
variable {G : GT} {d : Nat} {S : List Value} {h : AH} {P : OC → AH → Prop} {x0 x1 x2 x3 x4 x5 x6 x7 x8 x9 x10 x11 x12 x13 x14 x15 x16 x17 x18 x19 : Option Value}
theorem tJ4_init_da8c8_0 {k : Nat} (r : RQ G mJ4_init_da8c8 d 1 [some (.ref k)] (.ref k :: S) (h) P) : RQ G mJ4_init_da8c8 d 0 [some (.ref k)] (S) h P := q_aload_n (M := mJ4_init_da8c8) (pc := 0) (r0 := some k) dJ4_init_da8c8_0 rfl rfl r
theorem tJ4_init_da8c8_0q {r0 : Option Nat} (r : RQ G mJ4_init_da8c8 d 1 [some (va_rf r0)] (va_rf r0 :: S) (h) P) : RQ G mJ4_init_da8c8 d 0 [some (va_rf r0)] (S) h P := q_aload_n (M := mJ4_init_da8c8) (pc := 0) dJ4_init_da8c8_0 rfl rfl r
theorem tJ4_init_da8c8_1 (r : RQ G mJ4_init_da8c8 d 3 [x0] (.int (nI 16) :: S) (h) P) : RQ G mJ4_init_da8c8 d 1 [x0] (S) h P := q_bipush (M := mJ4_init_da8c8) (pc := 1) dJ4_init_da8c8_1 (by decide) r
theorem tJ4_init_da8c8_3 {b d2 : Nat} {a0 : Int32} {Q : AH → Prop} (hd : d2 + 1 ≤ d) (call : RQ G mJ5_init_d00df d2 0 [some (.ref b), some (.int a0)] [] h (Rv Q)) (k : ∀ h1, Q h1 → RQ G mJ4_init_da8c8 d 6 [x0] S h1 P) (hst : (S.map fun v => v.category).sum ≤ 8 := by exact Nat.le_of_ble_eq_true rfl)  : RQ G mJ4_init_da8c8 d 3 [x0] (.int a0 :: .ref b :: S) h P := q_callI (M := mJ4_init_da8c8) (pc := 3) (M2 := mJ5_init_d00df) (As := [.int a0]) (n := 1) dJ4_init_da8c8_3 ⟨by decide, by decide, by decide, rfl⟩ rfl rfl rfl w1383 w1384 w53 w1385 hd (by decide) (Nat.le_of_ble_eq_true rfl) rfl hst call (callk_v k)
theorem tJ4_init_da8c8_6 (hP : P (.inl none) h) : RQ G mJ4_init_da8c8 d 6 [x0] ([]) h P := q_return (M := mJ4_init_da8c8) (pc := 6) dJ4_init_da8c8_6 rfl hP
end T
