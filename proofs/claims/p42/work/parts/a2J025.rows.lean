theorem dJ4_toString_0e30d_0 : decode cJ4_toString_0e30d 0 = .ok (.new 18, 3) := by decide +kernel
theorem dJ4_toString_0e30d_3 : decode cJ4_toString_0e30d 3 = .ok (.dup, 1) := by decide +kernel
theorem dJ4_toString_0e30d_4 : decode cJ4_toString_0e30d 4 = .ok (.aload_n 0, 1) := by decide +kernel
theorem dJ4_toString_0e30d_5 : decode cJ4_toString_0e30d 5 = .ok (.invokespecial 137, 3) := by decide +kernel
theorem dJ4_toString_0e30d_8 : decode cJ4_toString_0e30d 8 = .ok (.areturn, 1) := by decide +kernel
section T
variable {G : GT} {d : Nat} {S : List Value} {h : AH} {P : OC → AH → Prop} {x0 x1 x2 x3 x4 x5 x6 x7 x8 x9 x10 x11 x12 x13 x14 x15 x16 x17 x18 x19 : Option Value}
theorem tJ4_toString_0e30d_0 (r : RQ G mJ4_toString_0e30d d 3 [x0] (.ref h.1 :: S) (hnew h 4 (.inr (16, [.null, .int 0, .int 0, .int 0]))) P) : RQ G mJ4_toString_0e30d d 0 [x0] (S) h P := q_new (M := mJ4_toString_0e30d) (pc := 0) dJ4_toString_0e30d_0 (show CL[16]? = some (RJ0, TJ0, 4) from rfl) inAJ0 tyJ0_ok w1417 w1418 w55 dfJ0 dnJ0 r
theorem tJ4_toString_0e30d_3 {v : Value} (hv : ok1 (some v) = true := by rfl) (r : RQ G mJ4_toString_0e30d d 4 [x0] (v :: v :: S) (h) P) : RQ G mJ4_toString_0e30d d 3 [x0] (v :: S) h P := q_dup (M := mJ4_toString_0e30d) (pc := 3) dJ4_toString_0e30d_3 hv r
theorem tJ4_toString_0e30d_4 {k : Nat} (r : RQ G mJ4_toString_0e30d d 5 [some (.ref k)] (.ref k :: S) (h) P) : RQ G mJ4_toString_0e30d d 4 [some (.ref k)] (S) h P := q_aload_n (M := mJ4_toString_0e30d) (pc := 4) (r0 := some k) dJ4_toString_0e30d_4 rfl rfl r
theorem tJ4_toString_0e30d_4q {r0 : Option Nat} (r : RQ G mJ4_toString_0e30d d 5 [some (va_rf r0)] (va_rf r0 :: S) (h) P) : RQ G mJ4_toString_0e30d d 4 [some (va_rf r0)] (S) h P := q_aload_n (M := mJ4_toString_0e30d) (pc := 4) dJ4_toString_0e30d_4 rfl rfl r
theorem tJ4_toString_0e30d_5 {b d2 : Nat} {a0 : Nat} {Q : AH → Prop} (hd : d2 + 1 ≤ d) (call : RQ G mJ0_init_81219 d2 0 [some (.ref b), some (.ref a0)] [] h (Rv Q)) (k : ∀ h1, Q h1 → RQ G mJ4_toString_0e30d d 8 [x0] S h1 P) (hst : (S.map fun v => v.category).sum ≤ 8 := by exact Nat.le_of_ble_eq_true rfl)  : RQ G mJ4_toString_0e30d d 5 [x0] (.ref a0 :: .ref b :: S) h P := q_callI (M := mJ4_toString_0e30d) (pc := 5) (M2 := mJ0_init_81219) (As := [.ref a0]) (n := 1) dJ4_toString_0e30d_5 ⟨by decide, by decide, by decide, rfl⟩ rfl rfl rfl w1419 w1420 w55 w1421 hd (by decide) (Nat.le_of_ble_eq_true rfl) rfl hst call (callk_v k)
theorem tJ4_toString_0e30d_8 {k : Nat} (hP : P (.inl (some (.ref k))) h) : RQ G mJ4_toString_0e30d d 8 [x0] ([.ref k]) h P := q_areturn (M := mJ4_toString_0e30d) (pc := 8) (r0 := some k) dJ4_toString_0e30d_8 rfl hP
end T
