/-! the rule of a lid: both sides -/
theorem nI_any (x : Int32) : ∃ n, nI n = x := ⟨x.toBitVec.toNat, by
  apply Int32.toBitVec_inj.mp
  show BitVec.ofNat 32 x.toBitVec.toNat = x.toBitVec
  simp⟩
/-- the rule of a lid, counted among its own -/
def roV (B : BK) (D : DY) (i : Nat) : Int32 := match rfD B D i with
  | none => -1
  | some r => nI (r - (bRu B i).1)
section RO
variable {G : GT} {d : Nat} {h : AH} {bk dr : Nat} {s : ST}
theorem Sd.ch {h1 : AH} (sd : Sd h h1 66 156) : Ch h h1 0 216 0 0 := ⟨Nat.le_of_eq sd.1.symm, by rw [sd.1]; omega, by rw [sd.2.1]; omega, sd.2.2.1.sub (Nat.le_refl _) (by omega), sd.2.2.2.2.sub (by omega) (Nat.le_refl _)⟩
theorem ClR.sd {h1 : AH} (c : ClR h 0 bk dr s) (hh : 216 ≤ h.1) {D : DY} {ac : Int32} (cu : CuR h1 66 s.2.2.1 D) (cw : CamW h1 156 ac) (sd : Sd h h1 66 156) : ClR h1 0 bk dr (s.1, s.2.1, s.2.2.1, D) := by
  obtain ⟨a1, a2, a3, ⟨a, b, c, a4⟩, a5, ⟨dy, a6⟩, a7, a8, a9⟩ := c
  have hb : (bk = 158 ∧ dr = 8) ∨ (bk = 8 ∧ dr = 158) := by omega
  have e : h.1 ≤ h1.1 := Nat.le_of_eq sd.1.symm
  have u : ∀ x y, y ≤ 66 ∨ (111 ≤ x ∧ y ≤ 156) ∨ 158 ≤ x → y ≤ h.1 → Un h h1 x y := fun x y q1 q2 => by
    rcases q1 with q1 | q1 | q1
    · exact sd.2.2.1.sub (Nat.zero_le _) q1
    · exact sd.2.2.2.1.sub q1.1 q1.2
    · exact sd.2.2.2.2.sub q1 q2
  exact ⟨a1.keep e (u 0 1 (by omega) (by omega) _ (by omega) (by omega)), a2.keep e (u _ _ (by omega) (by omega)), a3.keep e (u _ _ (by omega) (by omega)), ⟨a, b, c, a4.keep e (u _ _ (by omega) (by omega))⟩, cu, ⟨dy, a6.keep e (u _ _ (by omega) (by omega))⟩, cw.e, a8.keep e (u _ _ (by omega) (by omega)), a9⟩
theorem ClR.bkd (c : ClR h 0 bk dr s) : bk + 58 ≤ 66 ∨ 156 + 2 ≤ bk := by
  have := c.2.2.2.2.2.2.2.2
  omega
theorem ClR.cam (c : ClR h 0 bk dr s) : ∃ n0, CamW h 156 (nI n0) := by
  obtain ⟨ac, w⟩ := CamE.w c.2.2.2.2.2.2.1
  obtain ⟨n, e⟩ := nI_any ac
  exact ⟨n, by rw [e]; exact w⟩
theorem Sv.ch {h0 : AH} (sv : Sv h0 h) : Ch h0 h 216 269 0 0 := sv.1.ch (by omega) (by omega)

set_option maxHeartbeats 4000000 in
set_option maxRecDepth 100000 in
theorem k_ruleOfLid_ok (hd : 9 ≤ d) (c : ClR h 0 bk dr s) (hb : BDok s.2.2.1 s.2.2.2) (hh : 216 ≤ h.1) {j0 : Nat} (q0 : j0 < bLi s.2.2.1) : RQ G mX10_ruleOfLid d 0 [some (.ref 0), some (.int (nI j0)), none] [] h (CK h bk dr s "java/lang/IndexOutOfBoundsException" "" 0 (roV s.2.2.1 s.2.2.2 j0)) := by
  have c1 := c.poll
  have cb := c.book
  obtain ⟨n0, cw⟩ := c.cam
  obtain ⟨he_, cf_, ca0, ca1⟩ := id cw
  have hw := hb.bs.1
  have h24 := hw.2.1
  have hl := hw.2.2.2.2.2.2.1 j0 q0
  have l1 := hb.1
  have l2 := hb.2.1
  have l3 := hb.2.2.1
  refine tX10_ruleOfLid_0  (r := ?_)
  refine tX10_ruleOfLid_1  (r := ?_)
  refine tX10_ruleOfLid_2 (hd := (by omega)) (ha := (by first | assumption | (repeat (first | assumption | exact At.set_eq2 (by first | omega | (simp only [hset, hnew]; omega) | rfl | decide) | exact At.new_eq2 _ _ (by first | omega | (simp only [hset, hnew]; omega) | rfl | decide) | refine At.set_ne ?_ (by first | omega | (simp only [hset, hnew]; omega) | rfl | decide) | refine At.new_ne ?_)))) (call := s_checkLid_ok (d := 6) (QX := fun _ _ => False) c hb q0) (kx := fun E_ h_ hx_ => by exact hx_.elim) (k := ?_)
  intro h_ e0
  rw [e0]
  refine tX10_ruleOfLid_5  (r := ?_)
  refine tX10_ruleOfLid_6 (ha := (by first | assumption | (repeat (first | assumption | exact At.set_eq2 (by first | omega | (simp only [hset, hnew]; omega) | rfl | decide) | exact At.new_eq2 _ _ (by first | omega | (simp only [hset, hnew]; omega) | rfl | decide) | refine At.set_ne ?_ (by first | omega | (simp only [hset, hnew]; omega) | rfl | decide) | refine At.new_ne ?_)))) (hv := rfl) (r := ?_)
  refine tX10_ruleOfLid_9  (r := ?_)
  refine tX10_ruleOfLid_10 (ha := (by first | assumption | (repeat (first | assumption | exact At.set_eq2 (by first | omega | (simp only [hset, hnew]; omega) | rfl | decide) | exact At.new_eq2 _ _ (by first | omega | (simp only [hset, hnew]; omega) | rfl | decide) | refine At.set_ne ?_ (by first | omega | (simp only [hset, hnew]; omega) | rfl | decide) | refine At.new_ne ?_)))) (hv := rfl) (r := ?_)
  refine tX10_ruleOfLid_13  (r := ?_)
  refine tX10_ruleOfLid_14 (ha := (by first | assumption | (repeat (first | assumption | exact At.set_eq2 (by first | omega | (simp only [hset, hnew]; omega) | rfl | decide) | exact At.new_eq2 _ _ (by first | omega | (simp only [hset, hnew]; omega) | rfl | decide) | refine At.set_ne ?_ (by first | omega | (simp only [hset, hnew]; omega) | rfl | decide) | refine At.new_ne ?_)))) (hv := rfl) (r := ?_)
  refine tX10_ruleOfLid_17  (r := ?_)
  refine tX10_ruleOfLid_18 (hd := (by omega)) (ha := (by first | assumption | (repeat (first | assumption | exact At.set_eq2 (by first | omega | (simp only [hset, hnew]; omega) | rfl | decide) | exact At.new_eq2 _ _ (by first | omega | (simp only [hset, hnew]; omega) | rfl | decide) | refine At.set_ne ?_ (by first | omega | (simp only [hset, hnew]; omega) | rfl | decide) | refine At.new_ne ?_)))) (call := s_ruleFor (d := 7) (c := 66) (b := 156) (by decide) (by decide) c.bkd hb q0 c.2.2.2.2.2.2.2.1 c.2.2.2.2.1 cw) (k := ?_)
  rintro v h1 ⟨rfl, bo1, cu1, cw1, sd1⟩
  have c' := c.sd hh cu1 cw1 sd1
  have p1 := c'.poll
  have p2 := c'.book
  obtain ⟨-, -, -, -, -, ⟨z3, z4, z5⟩, -⟩ := id bo1
  refine tX10_ruleOfLid_21  (r := ?_)
  refine tX10_ruleOfLid_22  (r := ?_)
  refine tX10_ruleOfLid_23  (r := ?_)
  refine tX10_ruleOfLid_24  (kt := fun c_24 => ?_) (kf := fun c_24 => ?_)
  · obtain ⟨r, en⟩ : ∃ r, rfD s.2.2.1 s.2.2.2 j0 = some r := by
      cases z : rfD s.2.2.1 s.2.2.2 j0 with
      | none =>
        rw [z] at c_24
        exact absurd rfl c_24
      | some r => exact ⟨r, rfl⟩
    obtain ⟨r1, r2⟩ := rfN_lt _ _ _ en
    have ev : roV s.2.2.1 s.2.2.2 j0 = nI (r - (bRu s.2.2.1 j0).1) := by
      unfold roV
      rw [en]
    rw [show oI (rfD s.2.2.1 s.2.2.2 j0) = nI r from by rw [en]; rfl]
    refine tX10_ruleOfLid_31  (r := ?_)
    refine tX10_ruleOfLid_32  (r := ?_)
    refine tX10_ruleOfLid_33 (ha := (by first | assumption | (repeat (first | assumption | exact At.set_eq2 (by first | omega | (simp only [hset, hnew]; omega) | rfl | decide) | exact At.new_eq2 _ _ (by first | omega | (simp only [hset, hnew]; omega) | rfl | decide) | refine At.set_ne ?_ (by first | omega | (simp only [hset, hnew]; omega) | rfl | decide) | refine At.new_ne ?_)))) (hv := rfl) (r := ?_)
    refine tX10_ruleOfLid_36 (ha := (by first | assumption | (repeat (first | assumption | exact At.set_eq2 (by first | omega | (simp only [hset, hnew]; omega) | rfl | decide) | exact At.new_eq2 _ _ (by first | omega | (simp only [hset, hnew]; omega) | rfl | decide) | refine At.set_ne ?_ (by first | omega | (simp only [hset, hnew]; omega) | rfl | decide) | refine At.new_ne ?_)))) (hv := rfl) (r := ?_)
    refine tX10_ruleOfLid_39  (r := ?_)
    refine tX10_ruleOfLid_40 (ha := (by first | assumption | (repeat (first | assumption | exact At.set_eq2 (by first | omega | (simp only [hset, hnew]; omega) | rfl | decide) | exact At.new_eq2 _ _ (by first | omega | (simp only [hset, hnew]; omega) | rfl | decide) | refine At.set_ne ?_ (by first | omega | (simp only [hset, hnew]; omega) | rfl | decide) | refine At.new_ne ?_)))) (hx := rfl) (hj := (by omega)) (hn := (by decide)) (r := ?_)
    rw [z5 _ q0]
    refine tX10_ruleOfLid_41  (r := ?_)
    rw [nI_subN (by omega) (by omega)]
    refine tX10_ruleOfLid_42  (hP := ?_)
    rw [ev]
    exact ck_val c' sd1.ch
  · have en : rfD s.2.2.1 s.2.2.2 j0 = none := (oI_m1 (fun k z => by have := rfN_lt _ _ _ z; omega)).mp c_24
    have ev : roV s.2.2.1 s.2.2.2 j0 = -1 := by
      unfold roV
      rw [en]
    refine tX10_ruleOfLid_27  (r := ?_)
    refine tX10_ruleOfLid_28 (r := ?_)
    refine tX10_ruleOfLid_42  (hP := ?_)
    rw [ev]
    exact ck_val c' sd1.ch

end RO
