/-! feed -/
theorem bp_b (x : Int32) : x.toInt8.toInt32 &&& 255 = x &&& 255 := by
  apply Int32.toBitVec_inj.mp
  rw [Int32.toBitVec_and, Int32.toBitVec_and, Int8.toBitVec_toInt32, Int32.toBitVec_toInt8]
  apply BitVec.eq_of_getLsbD_eq
  intro i hi
  rw [BitVec.getLsbD_and, BitVec.getLsbD_and]
  have hm : ∀ i < 32, 8 ≤ i → (255 : Int32).toBitVec.getLsbD i = false := by decide
  rcases Nat.lt_or_ge i 8 with z | z
  · rw [BitVec.getLsbD_signExtend, BitVec.getLsbD_signExtend, if_pos z, if_pos hi]
    simp only [z, hi, decide_true, Bool.true_and]
  · rw [hm i hi z]; simp
/-- the byte of a that is shifted down by y -/
def byO (a y : Int32) : Nat := (a >>> (y &&& 31)).toBitVec.toNat % 2 ^ 8
theorem byO_lt (a y : Int32) : byO a y < 256 := Nat.mod_lt _ (by decide)
theorem byO_and (a y : Int32) : a >>> (y &&& 31) &&& nI 255 = nI (byO a y) := pk_and _ 8 (by decide)
theorem byO_b (a y : Int32) : vp_nar .byte (a >>> (y &&& 31)).toInt8.toInt32 = (nI (byO a y)).toInt8.toInt32 := by
  rw [pk_vb]
  apply (sc_eq (by simp) (byO_lt a y)).mpr
  rw [bp_b]
  exact byO_and a y
theorem ap_hi (T : List Nat) (x : Nat) : (T ++ [x]).getD T.length 0 = x := by simp
theorem ap_lo (T : List Nat) (x : Nat) {i : Nat} (h : i < T.length) : (T ++ [x]).getD i 0 = T.getD i 0 := by
  simp [List.getElem?_append, h]
theorem ap_len (T : List Nat) (x : Nat) : (T ++ [x]).length = T.length + 1 := by simp
/-- four bytes more -/
def ap4 (T : List Nat) (a : Int32) : List Nat := (((T ++ [byO a (nI 24)]) ++ [byO a (nI 16)]) ++ [byO a (nI 8)]) ++ [byO a (nI 0)]
theorem ap4_len (T : List Nat) (a : Int32) : (ap4 T a).length = T.length + 4 := by
  unfold ap4
  rw [ap_len, ap_len, ap_len, ap_len]
def apN (T : List Nat) (g : Nat → Int32) : Nat → List Nat
  | 0 => T
  | n + 1 => ap4 (apN T g n) (g n)
theorem apN_len (T : List Nat) (g : Nat → Int32) : ∀ n, (apN T g n).length = T.length + 4 * n
  | 0 => rfl
  | n + 1 => by
    show (ap4 (apN T g n) (g n)).length = _
    rw [ap4_len, apN_len T g n]
    omega
def fd5 (a b c d e : Int32) : Nat → Int32 := fun i => if i = 0 then a else if i = 1 then b else if i = 2 then c else if i = 3 then d else e
section FE
variable {G : GT} {d : Nat} {s : ST} {h0 h : AH} {bk dr : Nat}

set_option maxHeartbeats 4000000 in
set_option maxRecDepth 100000 in
theorem s_app1 {t : Nat} {T : List Nat} {a y : Int32} (ta : TaR h t T) (hT : T.length < 1600) (hy : ¬ y < 0) {P : OC → AH → Prop} (kk : ∀ h1, TaR h1 t (T ++ [byO a y]) → Sm h h1 t (t + 2) → RQ G mX8_append d 3 [some (.ref t), some (.int a), some (.int (y + -8))] [] h1 P) : RQ G mX8_append d 3 [some (.ref t), some (.int a), some (.int y)] [] h P := by
  obtain ⟨a1, a2, f, at2, a3⟩ := ta
  have l0 := a1.1
  have l1 := at2.1
  refine tX8_append_3  (r := ?_)
  refine tX8_append_4  (kt := fun c_ => by exfalso; exact hy c_) (kf := fun _ => ?_)
  refine tX8_append_7  (r := ?_)
  refine tX8_append_8 (ha := (by first | assumption | (repeat (first | assumption | exact At.set_eq2 (by first | omega | (simp only [hset, hnew]; omega) | rfl | decide) | exact At.new_eq2 _ _ (by first | omega | (simp only [hset, hnew]; omega) | rfl | decide) | refine At.set_ne ?_ (by first | omega | (simp only [hset, hnew]; omega) | rfl | decide) | refine At.new_ne ?_)))) (hv := rfl) (r := ?_)
  refine tX8_append_11  (r := ?_)
  refine tX8_append_14  (kt := fun c_ => by exfalso; exact absurd ((nI_leI (by decide) (by omega)).mp c_) (by omega)) (kf := fun _ => ?_)
  refine tX8_append_17  (r := ?_)
  refine tX8_append_18 (ha := (by first | assumption | (repeat (first | assumption | exact At.set_eq2 (by first | omega | (simp only [hset, hnew]; omega) | rfl | decide) | exact At.new_eq2 _ _ (by first | omega | (simp only [hset, hnew]; omega) | rfl | decide) | refine At.set_ne ?_ (by first | omega | (simp only [hset, hnew]; omega) | rfl | decide) | refine At.new_ne ?_)))) (hv := rfl) (r := ?_)
  refine tX8_append_21  (r := ?_)
  refine tX8_append_22 (ha := (by first | assumption | (repeat (first | assumption | exact At.set_eq2 (by first | omega | (simp only [hset, hnew]; omega) | rfl | decide) | exact At.new_eq2 _ _ (by first | omega | (simp only [hset, hnew]; omega) | rfl | decide) | refine At.set_ne ?_ (by first | omega | (simp only [hset, hnew]; omega) | rfl | decide) | refine At.new_ne ?_)))) (hv := rfl) (r := ?_)
  refine tX8_append_25  (r := ?_)
  refine tX8_append_26  (r := ?_)
  refine tX8_append_27  (r := ?_)
  refine tX8_append_28  (r := ?_)
  refine tX8_append_29 (ha := (by first | assumption | (repeat (first | assumption | exact At.set_eq2 (by first | omega | (simp only [hset, hnew]; omega) | rfl | decide) | exact At.new_eq2 _ _ (by first | omega | (simp only [hset, hnew]; omega) | rfl | decide) | refine At.set_ne ?_ (by first | omega | (simp only [hset, hnew]; omega) | rfl | decide) | refine At.new_ne ?_)))) (hx := rfl) (hj := (by omega)) (hn := (by decide)) (r := ?_)
  rw [byO_b]
  refine tX8_append_30  (r := ?_)
  refine tX8_append_31  (r := ?_)
  refine tX8_append_32 (ha := (by first | assumption | (repeat (first | assumption | exact At.set_eq2 (by first | omega | (simp only [hset, hnew]; omega) | rfl | decide) | exact At.new_eq2 _ _ (by first | omega | (simp only [hset, hnew]; omega) | rfl | decide) | refine At.set_ne ?_ (by first | omega | (simp only [hset, hnew]; omega) | rfl | decide) | refine At.new_ne ?_)))) (hv := rfl) (r := ?_)
  refine tX8_append_35  (r := ?_)
  refine tX8_append_36  (r := ?_)
  rw [nI_add]
  refine tX8_append_37 (ha := (by first | assumption | (repeat (first | assumption | exact At.set_eq2 (by first | omega | (simp only [hset, hnew]; omega) | rfl | decide) | exact At.new_eq2 _ _ (by first | omega | (simp only [hset, hnew]; omega) | rfl | decide) | refine At.set_ne ?_ (by first | omega | (simp only [hset, hnew]; omega) | rfl | decide) | refine At.new_ne ?_)))) (hlen := rfl) (r := ?_)
  refine tX8_append_40  (r := ?_)
  refine tX8_append_43 (r := ?_)
  refine kk _ ⟨?_, by rw [ap_len]; omega, _, At.set_ne (At.set_eq2 l1) (by omega), fun i hi => ?_⟩ (((Sm.rf h t (t + 2)).set (by omega) (by omega)).set (by omega) (by omega))
  · rw [ap_len]
    exact At.set_eq2 l0
  · rw [ap_len] at hi
    show (if i = T.length then (nI (byO a y)).toInt8.toInt32 else f i) = _ ∧ _
    by_cases e : i = T.length
    · rw [if_pos e, e, ap_hi]
      exact ⟨rfl, byO_lt a y⟩
    · rw [if_neg e, ap_lo T _ (by omega)]
      exact a3 i (by omega)

set_option maxHeartbeats 4000000 in
set_option maxRecDepth 100000 in
theorem s_append {t : Nat} {T : List Nat} {a : Int32} (ta : TaR h t T) (hT : T.length + 4 ≤ 1600) : RQ G mX8_append d 0 [some (.ref t), some (.int a), none] [] h (Rv fun h1 => TaR h1 t (ap4 T a) ∧ Sm h h1 t (t + 2)) := by
  refine tX8_append_0  (r := ?_)
  refine tX8_append_2  (r := ?_)
  refine s_app1 ta (by omega) (by decide) (fun h1 t1 q1 => ?_)
  rw [show nI 24 + -8 = nI 16 from by decide]
  refine s_app1 t1 (by rw [ap_len]; omega) (by decide) (fun h2 t2 q2 => ?_)
  rw [show nI 16 + -8 = nI 8 from by decide]
  refine s_app1 t2 (by rw [ap_len, ap_len]; omega) (by decide) (fun h3 t3 q3 => ?_)
  rw [show nI 8 + -8 = nI 0 from by decide]
  refine s_app1 t3 (by rw [ap_len, ap_len, ap_len]; omega) (by decide) (fun h4 t4 q4 => ?_)
  refine tX8_append_3  (r := ?_)
  refine tX8_append_4  (kf := fun c_ => by exfalso; exact c_ (by decide)) (kt := fun _ => ?_)
  refine tX8_append_46  (hP := ?_)
  exact ⟨rfl, t4, (((q1.trans q2).trans q3).trans q4)⟩

set_option maxHeartbeats 4000000 in
set_option maxRecDepth 100000 in
theorem s_room {t : Nat} {T : List Nat} (ta : TaR h t T) : RQ G mX8_hasRoomFor d 0 [some (.ref t), some (.int (nI 20))] [] h (Ri fun v h1 => v = (if T.length ≤ 1580 then nI 1 else nI 0) ∧ h1 = h) := by
  obtain ⟨a1, a2, f, at2, a3⟩ := ta
  refine tX8_hasRoomFor_0  (r := ?_)
  refine tX8_hasRoomFor_1 (ha := (by first | assumption | (repeat (first | assumption | exact At.set_eq2 (by first | omega | (simp only [hset, hnew]; omega) | rfl | decide) | exact At.new_eq2 _ _ (by first | omega | (simp only [hset, hnew]; omega) | rfl | decide) | refine At.set_ne ?_ (by first | omega | (simp only [hset, hnew]; omega) | rfl | decide) | refine At.new_ne ?_)))) (hv := rfl) (r := ?_)
  refine tX8_hasRoomFor_4  (r := ?_)
  refine tX8_hasRoomFor_7  (r := ?_)
  refine tX8_hasRoomFor_8  (r := ?_)
  rw [nI_subN (by decide) (by decide)]
  refine tX8_hasRoomFor_9  (kt := fun c_9 => ?_) (kf := fun c_9 => ?_)
  · have z : ¬ T.length ≤ 1580 := by have := (nI_ltI (by decide) (by omega)).mp c_9; omega
    refine tX8_hasRoomFor_16  (r := ?_)
    refine tX8_hasRoomFor_17 (hb := (Or.inl rfl)) (hP := ?_)
    exact ⟨_, rfl, by rw [if_neg z], rfl⟩
  · have z : T.length ≤ 1580 := Nat.le_of_not_lt (fun y => c_9 ((nI_ltI (by decide) (by omega)).mpr y))
    refine tX8_hasRoomFor_12  (r := ?_)
    refine tX8_hasRoomFor_13 (r := ?_)
    refine tX8_hasRoomFor_17 (hb := (Or.inr rfl)) (hP := ?_)
    exact ⟨_, rfl, by rw [if_pos z], rfl⟩

set_option maxHeartbeats 4000000 in
set_option maxRecDepth 100000 in
theorem k_feed_ok (hd : 7 ≤ d) (c : ClR h 0 bk dr s) (g0 : 216 ≤ h.1) {a0 a1 a2 a3 a4 : Int32} (g : s.1.length ≤ 1580) : RQ G mX10_feed d 0 [some (.ref 0), some (.int a0), some (.int a1), some (.int a2), some (.int a3), some (.int a4)] [] h (CK h bk dr (apN s.1 (fd5 a0 a1 a2 a3 a4) 5, s.2.1, s.2.2.1, s.2.2.2) "java/lang/IllegalStateException" "" 0 (nI (s.1.length + 20))) := by
  have c1 := c.poll
  have tz := c.2.1.1
  refine tX10_feed_0  (r := ?_)
  refine tX10_feed_1 (ha := (by first | assumption | (repeat (first | assumption | exact At.set_eq2 (by first | omega | (simp only [hset, hnew]; omega) | rfl | decide) | exact At.new_eq2 _ _ (by first | omega | (simp only [hset, hnew]; omega) | rfl | decide) | refine At.set_ne ?_ (by first | omega | (simp only [hset, hnew]; omega) | rfl | decide) | refine At.new_ne ?_)))) (hv := rfl) (r := ?_)
  refine tX10_feed_4  (r := ?_)
  refine tX10_feed_6 (hd := (by omega)) (ha := (by first | assumption | (repeat (first | assumption | exact At.set_eq2 (by first | omega | (simp only [hset, hnew]; omega) | rfl | decide) | exact At.new_eq2 _ _ (by first | omega | (simp only [hset, hnew]; omega) | rfl | decide) | refine At.set_ne ?_ (by first | omega | (simp only [hset, hnew]; omega) | rfl | decide) | refine At.new_ne ?_)))) (call := s_room (d := 5) c.2.1) (k := ?_)
  rintro v_ h_ ⟨rfl, e9⟩
  rw [e9, if_pos g]
  refine tX10_feed_9  (kf := fun c_ => by exfalso; exact absurd c_ (by decide)) (kt := fun _ => ?_)
  refine tX10_feed_20  (r := ?_)
  refine tX10_feed_21 (ha := (by first | assumption | (repeat (first | assumption | exact At.set_eq2 (by first | omega | (simp only [hset, hnew]; omega) | rfl | decide) | exact At.new_eq2 _ _ (by first | omega | (simp only [hset, hnew]; omega) | rfl | decide) | refine At.set_ne ?_ (by first | omega | (simp only [hset, hnew]; omega) | rfl | decide) | refine At.new_ne ?_)))) (hv := rfl) (r := ?_)
  refine tX10_feed_24  (r := ?_)
  refine tX10_feed_25 (hd := (by omega)) (ha := (by first | assumption | (repeat (first | assumption | exact At.set_eq2 (by first | omega | (simp only [hset, hnew]; omega) | rfl | decide) | exact At.new_eq2 _ _ (by first | omega | (simp only [hset, hnew]; omega) | rfl | decide) | refine At.set_ne ?_ (by first | omega | (simp only [hset, hnew]; omega) | rfl | decide) | refine At.new_ne ?_)))) (call := s_append (d := 5) c.2.1 (by omega)) (k := ?_)
  intro hh0 hq
  obtain ⟨t0, sm0⟩ := hq
  have cc0 := c.tape t0 (Nat.le_of_eq sm0.1.symm) (sm0.2.2.1 0 (Nat.le_refl _) (by decide)) (sm0.2.2.2.sub (by decide) g0)
  have c1 := cc0.poll
  have tz0 := t0.1
  have g1 : 216 ≤ hh0.1 := by rw [sm0.1]; exact g0
  refine tX10_feed_28  (r := ?_)
  refine tX10_feed_29 (ha := (by first | assumption | (repeat (first | assumption | exact At.set_eq2 (by first | omega | (simp only [hset, hnew]; omega) | rfl | decide) | exact At.new_eq2 _ _ (by first | omega | (simp only [hset, hnew]; omega) | rfl | decide) | refine At.set_ne ?_ (by first | omega | (simp only [hset, hnew]; omega) | rfl | decide) | refine At.new_ne ?_)))) (hv := rfl) (r := ?_)
  refine tX10_feed_32  (r := ?_)
  refine tX10_feed_33 (hd := (by omega)) (ha := (by first | assumption | (repeat (first | assumption | exact At.set_eq2 (by first | omega | (simp only [hset, hnew]; omega) | rfl | decide) | exact At.new_eq2 _ _ (by first | omega | (simp only [hset, hnew]; omega) | rfl | decide) | refine At.set_ne ?_ (by first | omega | (simp only [hset, hnew]; omega) | rfl | decide) | refine At.new_ne ?_)))) (call := s_append (d := 5) cc0.2.1 (by show (apN s.1 (fd5 a0 a1 a2 a3 a4) 1).length + 4 ≤ 1600; rw [apN_len]; omega)) (k := ?_)
  intro hh1 hq
  obtain ⟨t1, sm1⟩ := hq
  have cc1 := cc0.tape t1 (Nat.le_of_eq sm1.1.symm) (sm1.2.2.1 0 (Nat.le_refl _) (by decide)) (sm1.2.2.2.sub (by decide) g1)
  have c1 := cc1.poll
  have tz1 := t1.1
  have g2 : 216 ≤ hh1.1 := by rw [sm1.1]; exact g1
  refine tX10_feed_36  (r := ?_)
  refine tX10_feed_37 (ha := (by first | assumption | (repeat (first | assumption | exact At.set_eq2 (by first | omega | (simp only [hset, hnew]; omega) | rfl | decide) | exact At.new_eq2 _ _ (by first | omega | (simp only [hset, hnew]; omega) | rfl | decide) | refine At.set_ne ?_ (by first | omega | (simp only [hset, hnew]; omega) | rfl | decide) | refine At.new_ne ?_)))) (hv := rfl) (r := ?_)
  refine tX10_feed_40  (r := ?_)
  refine tX10_feed_41 (hd := (by omega)) (ha := (by first | assumption | (repeat (first | assumption | exact At.set_eq2 (by first | omega | (simp only [hset, hnew]; omega) | rfl | decide) | exact At.new_eq2 _ _ (by first | omega | (simp only [hset, hnew]; omega) | rfl | decide) | refine At.set_ne ?_ (by first | omega | (simp only [hset, hnew]; omega) | rfl | decide) | refine At.new_ne ?_)))) (call := s_append (d := 5) cc1.2.1 (by show (apN s.1 (fd5 a0 a1 a2 a3 a4) 2).length + 4 ≤ 1600; rw [apN_len]; omega)) (k := ?_)
  intro hh2 hq
  obtain ⟨t2, sm2⟩ := hq
  have cc2 := cc1.tape t2 (Nat.le_of_eq sm2.1.symm) (sm2.2.2.1 0 (Nat.le_refl _) (by decide)) (sm2.2.2.2.sub (by decide) g2)
  have c1 := cc2.poll
  have tz2 := t2.1
  have g3 : 216 ≤ hh2.1 := by rw [sm2.1]; exact g2
  refine tX10_feed_44  (r := ?_)
  refine tX10_feed_45 (ha := (by first | assumption | (repeat (first | assumption | exact At.set_eq2 (by first | omega | (simp only [hset, hnew]; omega) | rfl | decide) | exact At.new_eq2 _ _ (by first | omega | (simp only [hset, hnew]; omega) | rfl | decide) | refine At.set_ne ?_ (by first | omega | (simp only [hset, hnew]; omega) | rfl | decide) | refine At.new_ne ?_)))) (hv := rfl) (r := ?_)
  refine tX10_feed_48  (r := ?_)
  refine tX10_feed_50 (hd := (by omega)) (ha := (by first | assumption | (repeat (first | assumption | exact At.set_eq2 (by first | omega | (simp only [hset, hnew]; omega) | rfl | decide) | exact At.new_eq2 _ _ (by first | omega | (simp only [hset, hnew]; omega) | rfl | decide) | refine At.set_ne ?_ (by first | omega | (simp only [hset, hnew]; omega) | rfl | decide) | refine At.new_ne ?_)))) (call := s_append (d := 5) cc2.2.1 (by show (apN s.1 (fd5 a0 a1 a2 a3 a4) 3).length + 4 ≤ 1600; rw [apN_len]; omega)) (k := ?_)
  intro hh3 hq
  obtain ⟨t3, sm3⟩ := hq
  have cc3 := cc2.tape t3 (Nat.le_of_eq sm3.1.symm) (sm3.2.2.1 0 (Nat.le_refl _) (by decide)) (sm3.2.2.2.sub (by decide) g3)
  have c1 := cc3.poll
  have tz3 := t3.1
  have g4 : 216 ≤ hh3.1 := by rw [sm3.1]; exact g3
  refine tX10_feed_53  (r := ?_)
  refine tX10_feed_54 (ha := (by first | assumption | (repeat (first | assumption | exact At.set_eq2 (by first | omega | (simp only [hset, hnew]; omega) | rfl | decide) | exact At.new_eq2 _ _ (by first | omega | (simp only [hset, hnew]; omega) | rfl | decide) | refine At.set_ne ?_ (by first | omega | (simp only [hset, hnew]; omega) | rfl | decide) | refine At.new_ne ?_)))) (hv := rfl) (r := ?_)
  refine tX10_feed_57  (r := ?_)
  refine tX10_feed_59 (hd := (by omega)) (ha := (by first | assumption | (repeat (first | assumption | exact At.set_eq2 (by first | omega | (simp only [hset, hnew]; omega) | rfl | decide) | exact At.new_eq2 _ _ (by first | omega | (simp only [hset, hnew]; omega) | rfl | decide) | refine At.set_ne ?_ (by first | omega | (simp only [hset, hnew]; omega) | rfl | decide) | refine At.new_ne ?_)))) (call := s_append (d := 5) cc3.2.1 (by show (apN s.1 (fd5 a0 a1 a2 a3 a4) 4).length + 4 ≤ 1600; rw [apN_len]; omega)) (k := ?_)
  intro hh4 hq
  obtain ⟨t4, sm4⟩ := hq
  have cc4 := cc3.tape t4 (Nat.le_of_eq sm4.1.symm) (sm4.2.2.1 0 (Nat.le_refl _) (by decide)) (sm4.2.2.2.sub (by decide) g4)
  have c1 := cc4.poll
  have tz4 := t4.1
  have g5 : 216 ≤ hh4.1 := by rw [sm4.1]; exact g4
  refine tX10_feed_62  (r := ?_)
  refine tX10_feed_63 (ha := (by first | assumption | (repeat (first | assumption | exact At.set_eq2 (by first | omega | (simp only [hset, hnew]; omega) | rfl | decide) | exact At.new_eq2 _ _ (by first | omega | (simp only [hset, hnew]; omega) | rfl | decide) | refine At.set_ne ?_ (by first | omega | (simp only [hset, hnew]; omega) | rfl | decide) | refine At.new_ne ?_)))) (hv := rfl) (r := ?_)
  refine tX10_feed_66 (ha := t4.1) (hv := rfl) (r := ?_)
  refine tX10_feed_69  (hP := ?_)
  have e : nI (ap4 (ap4 (ap4 (ap4 (ap4 s.1 a0) a1) a2) a3) a4).length = nI (s.1.length + 20) := by
    rw [ap4_len, ap4_len, ap4_len, ap4_len, ap4_len]
  rw [e]
  exact ck_val cc4 (((((sm0.trans sm1).trans sm2).trans sm3).trans sm4).ch (Nat.zero_le _) (by decide))

set_option maxHeartbeats 4000000 in
set_option maxRecDepth 100000 in
theorem k_feed_no (hd : 7 ≤ d) (c : ClR h 0 bk dr s) (hh : 216 ≤ h.1) {a0 a1 a2 a3 a4 : Int32} {V : Int32} (g : ¬ s.1.length ≤ 1580) : RQ G mX10_feed d 0 [some (.ref 0), some (.int a0), some (.int a1), some (.int a2), some (.int a3), some (.int a4)] [] h (CK h bk dr s "java/lang/IllegalStateException" "" 1 V) := by
  have c1 := c.poll
  have tz := c.2.1.1
  refine tX10_feed_0  (r := ?_)
  refine tX10_feed_1 (ha := (by first | assumption | (repeat (first | assumption | exact At.set_eq2 (by first | omega | (simp only [hset, hnew]; omega) | rfl | decide) | exact At.new_eq2 _ _ (by first | omega | (simp only [hset, hnew]; omega) | rfl | decide) | refine At.set_ne ?_ (by first | omega | (simp only [hset, hnew]; omega) | rfl | decide) | refine At.new_ne ?_)))) (hv := rfl) (r := ?_)
  refine tX10_feed_4  (r := ?_)
  refine tX10_feed_6 (hd := (by omega)) (ha := (by first | assumption | (repeat (first | assumption | exact At.set_eq2 (by first | omega | (simp only [hset, hnew]; omega) | rfl | decide) | exact At.new_eq2 _ _ (by first | omega | (simp only [hset, hnew]; omega) | rfl | decide) | refine At.set_ne ?_ (by first | omega | (simp only [hset, hnew]; omega) | rfl | decide) | refine At.new_ne ?_)))) (call := s_room (d := 5) c.2.1) (k := ?_)
  rintro v_ h_ ⟨rfl, e9⟩
  rw [e9, if_neg g]
  refine tX10_feed_9  (kt := fun c_ => by exfalso; exact c_ (by decide)) (kf := fun _ => ?_)
  refine tX10_feed_12 (hdd := (by omega)) (hP := ?_)
  exact ck_throw c hh (Or.inl ⟨rfl, rfl⟩)

theorem MoT.push {m : Nat} {th : Int32} {s : ST} {h : AH} (c : MoT h m th s) {tk iw er et dp nm : Int32} (a : At h m (ModO m th (nI s.1.length) s.2.1 tk iw er et dp nm)) {f : Nat → Int32} (a1 : At h (m + 1) (.inl (0, 1600, .inl f))) (hf : ∀ i, i < s.1.length → f i = nI (s.1.getD i 0)) (x : Nat) : MoT (hset (hset h (m + 1) (.inl (0, 1600, .inl (upd f s.1.length (nI x))))) m (ModO m th (nI (s.1.length + 1)) s.2.1 tk iw er et dp nm)) m th (s.1 ++ [x], s.2.1, s.2.2.1, s.2.2.2) := by
  obtain ⟨-, ⟨-, -, a2, a3, a4, a5, a6, a7, a8, ⟨ru, ac, no, a9⟩, ⟨b1, b2, b3, b4, b5, b6, a28⟩, a47, ⟨f48, a48, hf48⟩, a49, a50, a51, a52⟩, c3⟩ := c
  have u : Un h (hset (hset h (m + 1) (.inl (0, 1600, .inl (upd f s.1.length (nI x))))) m (ModO m th (nI (s.1.length + 1)) s.2.1 tk iw er et dp nm)) (m + 2) (m + 53) := Un.set (Un.set (Un.rf _ _ _) (by omega)) (by omega)
  have e : h.1 ≤ (hset (hset h (m + 1) (.inl (0, 1600, .inl (upd f s.1.length (nI x))))) m (ModO m th (nI (s.1.length + 1)) s.2.1 tk iw er et dp nm)).1 := Nat.le_refl _
  have am : At (hset (hset h (m + 1) (.inl (0, 1600, .inl (upd f s.1.length (nI x))))) m (ModO m th (nI (s.1.length + 1)) s.2.1 tk iw er et dp nm)) m (ModO m th (nI (s.1 ++ [x]).length) s.2.1 tk iw er et dp nm) := by
    rw [ap_len]
    exact At.set_eq2 a.1
  obtain ⟨⟨f1', a1', c1'⟩, ⟨f2, a2', c2⟩, ⟨f3, a3', c3'⟩, ⟨f4, a4', c4⟩, ⟨f5, a5', c5⟩⟩ := c3
  refine ⟨⟨tk, iw, er, et, dp, nm, am⟩, ⟨⟨th, tk, iw, er, et, dp, nm, am⟩, ⟨_, At.set_ne (At.set_eq2 a1.1) (by omega), fun i hi => ?_⟩, a2.keep e (u _ (by omega) (by omega)), a3.keep e (u _ (by omega) (by omega)), a4.keep e (u _ (by omega) (by omega)), a5.keep e (u _ (by omega) (by omega)), a6.keep e (u _ (by omega) (by omega)), a7.keep e (u _ (by omega) (by omega)), a8.keep e (u _ (by omega) (by omega)), ⟨ru, ac, no, a9.keep e (u.sub (by omega) (by omega))⟩, ⟨b1, b2, b3, b4, b5, b6, a28.keep e (u.sub (by omega) (by omega))⟩, a47.keep e (u _ (by omega) (by omega)), ⟨f48, a48.keep e (u _ (by omega) (by omega)), hf48⟩, a49.keep e (u _ (by omega) (by omega)), a50.keep e (u _ (by omega) (by omega)), a51.keep e (u _ (by omega) (by omega)), a52.keep e (u _ (by omega) (by omega))⟩,
    ⟨f1', a1'.keep e (u _ (by omega) (by omega)), c1'⟩, ⟨f2, a2'.keep e (u _ (by omega) (by omega)), c2⟩, ⟨f3, a3'.keep e (u _ (by omega) (by omega)), c3'⟩, ⟨f4, a4'.keep e (u _ (by omega) (by omega)), c4⟩, ⟨f5, a5'.keep e (u _ (by omega) (by omega)), c5⟩⟩
  have hi : i < (s.1 ++ [x]).length := hi
  rw [ap_len] at hi
  show (if i = s.1.length then nI x else f i) = nI ((s.1 ++ [x]).getD i 0)
  by_cases e : i = s.1.length
  · rw [if_pos e, e, ap_hi]
  · rw [if_neg e, ap_lo _ _ (by omega)]
    exact hf i (by omega)

theorem MoR.room (m1 : MoR h 216 s) : 269 ≤ h.1 := by
  obtain ⟨-, -, -, -, -, -, -, -, -, -, -, -, -, -, -, -, ⟨f, a52⟩⟩ := m1
  have := a52.1
  omega

end FE