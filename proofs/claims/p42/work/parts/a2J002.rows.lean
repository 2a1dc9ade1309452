theorem dJ4_init_a7421_0 : decode cJ4_init_a7421 0 = .ok (.aload_n 0, 1) := by decide +kernel
theorem dJ4_init_a7421_1 : decode cJ4_init_a7421 1 = .ok (.aload_n 1, 1) := by decide +kernel
theorem dJ4_init_a7421_2 : decode cJ4_init_a7421 2 = .ok (.invokespecial 7, 3) := by decide +kernel
theorem dJ4_init_a7421_5 : decode cJ4_init_a7421 5 = .ok (.return_, 1) := by decide +kernel
section T
variable {G : GT} {d : Nat} {S : List Value} {h : AH} {P : OC → AH → Prop} {x0 x1 x2 x3 x4 x5 x6 x7 x8 x9 x10 x11 x12 x13 x14 x15 x16 x17 x18 x19 : Option Value}
theorem tJ4_init_a7421_0 {k : Nat} (r : RQ G mJ4_init_a7421 d 1 [some (.ref k), x1] (.ref k :: S) (h) P) : RQ G mJ4_init_a7421 d 0 [some (.ref k), x1] (S) h P := q_aload_n (M := mJ4_init_a7421) (pc := 0) (r0 := some k) dJ4_init_a7421_0 rfl rfl r
theorem tJ4_init_a7421_0q {r0 : Option Nat} (r : RQ G mJ4_init_a7421 d 1 [some (va_rf r0), x1] (va_rf r0 :: S) (h) P) : RQ G mJ4_init_a7421 d 0 [some (va_rf r0), x1] (S) h P := q_aload_n (M := mJ4_init_a7421) (pc := 0) dJ4_init_a7421_0 rfl rfl r
theorem tJ4_init_a7421_1 {k : Nat} (r : RQ G mJ4_init_a7421 d 2 [x0, some (.ref k)] (.ref k :: S) (h) P) : RQ G mJ4_init_a7421 d 1 [x0, some (.ref k)] (S) h P := q_aload_n (M := mJ4_init_a7421) (pc := 1) (r0 := some k) dJ4_init_a7421_1 rfl rfl r
theorem tJ4_init_a7421_1q {r0 : Option Nat} (r : RQ G mJ4_init_a7421 d 2 [x0, some (va_rf r0)] (va_rf r0 :: S) (h) P) : RQ G mJ4_init_a7421 d 1 [x0, some (va_rf r0)] (S) h P := q_aload_n (M := mJ4_init_a7421) (pc := 1) dJ4_init_a7421_1 rfl rfl r
theorem tJ4_init_a7421_2 {b d2 : Nat} {a0 : Nat} {Q : AH → Prop} (hd : d2 + 1 ≤ d) (call : RQ G mJ5_init_a7421 d2 0 [some (.ref b), some (.ref a0), none, none, none] [] h (Rv Q)) (k : ∀ h1, Q h1 → RQ G mJ4_init_a7421 d 5 [x0, x1] S h1 P) (hst : (S.map fun v => v.category).sum ≤ 8 := by exact Nat.le_of_ble_eq_true rfl)  : RQ G mJ4_init_a7421 d 2 [x0, x1] (.ref a0 :: .ref b :: S) h P := q_callI (M := mJ4_init_a7421) (pc := 2) (M2 := mJ5_init_a7421) (As := [.ref a0]) (n := 1) dJ4_init_a7421_2 ⟨by decide, by decide, by decide, rfl⟩ rfl rfl rfl w1658 w1659 w53 w1660 hd (by decide) (Nat.le_of_ble_eq_true rfl) rfl hst call (callk_v k)
theorem tJ4_init_a7421_5 (hP : P (.inl none) h) : RQ G mJ4_init_a7421 d 5 [x0, x1] ([]) h P := q_return (M := mJ4_init_a7421) (pc := 5) dJ4_init_a7421_5 rfl hP
end T
