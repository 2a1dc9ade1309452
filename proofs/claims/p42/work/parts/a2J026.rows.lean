theorem dJ0_init_81219_0 : decode cJ0_init_81219 0 = .ok (.aload_n 0, 1) := by decide +kernel
theorem dJ0_init_81219_1 : decode cJ0_init_81219 1 = .ok (.aload_n 1, 1) := by decide +kernel
theorem dJ0_init_81219_2 : decode cJ0_init_81219 2 = .ok (.aconst_null, 1) := by decide +kernel
theorem dJ0_init_81219_3 : decode cJ0_init_81219 3 = .ok (.invokespecial 489, 3) := by decide +kernel
theorem dJ0_init_81219_6 : decode cJ0_init_81219 6 = .ok (.return_, 1) := by decide +kernel
section T
variable {G : GT} {d : Nat} {S : List Value} {h : AH} {P : OC → AH → Prop} {x0 x1 x2 x3 x4 x5 x6 x7 x8 x9 x10 x11 x12 x13 x14 x15 x16 x17 x18 x19 : Option Value}
theorem tJ0_init_81219_0 {k : Nat} (r : RQ G mJ0_init_81219 d 1 [some (.ref k), x1] (.ref k :: S) (h) P) : RQ G mJ0_init_81219 d 0 [some (.ref k), x1] (S) h P := q_aload_n (M := mJ0_init_81219) (pc := 0) (r0 := some k) dJ0_init_81219_0 rfl rfl r
theorem tJ0_init_81219_0q {r0 : Option Nat} (r : RQ G mJ0_init_81219 d 1 [some (va_rf r0), x1] (va_rf r0 :: S) (h) P) : RQ G mJ0_init_81219 d 0 [some (va_rf r0), x1] (S) h P := q_aload_n (M := mJ0_init_81219) (pc := 0) dJ0_init_81219_0 rfl rfl r
theorem tJ0_init_81219_1 {k : Nat} (r : RQ G mJ0_init_81219 d 2 [x0, some (.ref k)] (.ref k :: S) (h) P) : RQ G mJ0_init_81219 d 1 [x0, some (.ref k)] (S) h P := q_aload_n (M := mJ0_init_81219) (pc := 1) (r0 := some k) dJ0_init_81219_1 rfl rfl r
theorem tJ0_init_81219_1q {r0 : Option Nat} (r : RQ G mJ0_init_81219 d 2 [x0, some (va_rf r0)] (va_rf r0 :: S) (h) P) : RQ G mJ0_init_81219 d 1 [x0, some (va_rf r0)] (S) h P := q_aload_n (M := mJ0_init_81219) (pc := 1) dJ0_init_81219_1 rfl rfl r
theorem tJ0_init_81219_2 (r : RQ G mJ0_init_81219 d 3 [x0, x1] (.null :: S) (h) P) : RQ G mJ0_init_81219 d 2 [x0, x1] (S) h P := q_null (M := mJ0_init_81219) (pc := 2) dJ0_init_81219_2 r
theorem tJ0_init_81219_3 {b d2 : Nat} {a0 : Option Nat} {a1 : Option Nat} {Q : AH → Prop} (hd : d2 + 1 ≤ d) (call : RQ G mJ0_init_db425 d2 0 [some (.ref b), some (va_rf a0), some (va_rf a1), none, none] [] h (Rv Q)) (k : ∀ h1, Q h1 → RQ G mJ0_init_81219 d 6 [x0, x1] S h1 P) (hst : (S.map fun v => v.category).sum ≤ 8 := by exact Nat.le_of_ble_eq_true rfl)  : RQ G mJ0_init_81219 d 3 [x0, x1] (va_rf a1 :: va_rf a0 :: .ref b :: S) h P := by
  rcases a0 with _ | z0 <;> rcases a1 with _ | z1
  · exact q_callI (M := mJ0_init_81219) (pc := 3) (M2 := mJ0_init_db425) (As := [.null, .null]) (n := 2) dJ0_init_81219_3 ⟨by decide, by decide, by decide, rfl⟩ rfl rfl rfl w1422 w1423 w55 w1424 hd (by decide) (Nat.le_of_ble_eq_true rfl) rfl hst call (callk_v k)
  · exact q_callI (M := mJ0_init_81219) (pc := 3) (M2 := mJ0_init_db425) (As := [.null, .ref z1]) (n := 2) dJ0_init_81219_3 ⟨by decide, by decide, by decide, rfl⟩ rfl rfl rfl w1422 w1423 w55 w1424 hd (by decide) (Nat.le_of_ble_eq_true rfl) rfl hst call (callk_v k)
  · exact q_callI (M := mJ0_init_81219) (pc := 3) (M2 := mJ0_init_db425) (As := [.ref z0, .null]) (n := 2) dJ0_init_81219_3 ⟨by decide, by decide, by decide, rfl⟩ rfl rfl rfl w1422 w1423 w55 w1424 hd (by decide) (Nat.le_of_ble_eq_true rfl) rfl hst call (callk_v k)
  · exact q_callI (M := mJ0_init_81219) (pc := 3) (M2 := mJ0_init_db425) (As := [.ref z0, .ref z1]) (n := 2) dJ0_init_81219_3 ⟨by decide, by decide, by decide, rfl⟩ rfl rfl rfl w1422 w1423 w55 w1424 hd (by decide) (Nat.le_of_ble_eq_true rfl) rfl hst call (callk_v k)
theorem tJ0_init_81219_6 (hP : P (.inl none) h) : RQ G mJ0_init_81219 d 6 [x0, x1] ([]) h P := q_return (M := mJ0_init_81219) (pc := 6) dJ0_init_81219_6 rfl hP
end T
