/-! the law's world: class, cupboard by hand, dice, turnouts; beans in all; act -/
/-- what is known of the cupboard that was drawn -/
def Fx (B_z : BK) (Rs : Nat → List ERu) : Prop := (∀ i_z, i_z < bLi B_z → (Rs i_z).length ≤ 2 ∧ ∀ e_z ∈ Rs i_z, okRu (bLa B_z) (bJa B_z) e_z) ∧ (∀ i_z, i_z < bLi B_z → LiAt B_z i_z (Rs i_z)) ∧ bLi B_z ≤ 3 ∧ 0 < bLa B_z ∧ 0 < bJa B_z
/-- the class in D_z, the cupboard by hand in D2; since h0 no more than ck cells and sk slots -/
def WL (h0 h : AH) (bk dr c_z di tn : Nat) (Rs : Nat → List ERu) (B_z : BK) (tf : Nat → Int32) (D_z D2 : DY) (ck sk : Nat) : Prop := ClR h 0 bk dr ([], -1, B_z, D_z) ∧ (∃ (fo ja li : Nat) (xj yl rl : Nat → Nat) (jf_z lf_z : Nat → Option Nat), HaX h c_z B_z D2 Rs tn fo ja li xj yl rl jf_z lf_z) ∧ DiR h di ∧ At h tn (.inl (0, bJa B_z, .inl tf)) ∧ (h0.1 ≤ h.1 ∧ h.1 ≤ h0.1 + ck ∧ h.2.1 ≤ h0.2.1 + sk) ∧ 216 ≤ h0.1 ∧ 216 ≤ di ∧ 216 ≤ tn
/-- a_z jar holds as many beans as before -/
def SmD (B_z : BK) (D_z D9 : DY) : Prop := ∀ j_z, j_z < bJa B_z → su (dB D9 j_z) 6 = su (dB D_z j_z) 6
section F3
variable {G : GT} {d c_z di tn bk dr ck sk : Nat} {h0 h h1 : AH} {B_z : BK} {D_z D2 D9 : DY} {Rs : Nat → List ERu} {tf : Nat → Int32}
theorem Fx.li (f : Fx B_z Rs) : bLi B_z ≤ 3 := f.2.2.1
theorem Fx.la (f : Fx B_z Rs) : 0 < bLa B_z := f.2.2.2.1
theorem Fx.ja (f : Fx B_z Rs) : 0 < bJa B_z := f.2.2.2.2
theorem SmD.rf (B_z : BK) (D_z : DY) : SmD B_z D_z D_z := fun _ _ => rfl
theorem SmD.trans {D8 : DY} (a_z : SmD B_z D_z D8) (b_z : SmD B_z D8 D9) : SmD B_z D_z D9 := fun j_z hj => (b_z j_z hj).trans (a_z j_z hj)
theorem sm_mv (hb : BDok B_z D_z) {i_z f t v_z : Nat} (hf : f < bLa B_z) (ht : t < bLa B_z) (hv : v_z ≤ dB D_z i_z f) : SmD B_z D_z (jrB D_z i_z (mvB (dB D_z i_z) f t v_z)) := fun j_z hj => by
  have l6 := hb.1
  show su (if j_z = i_z then mvB (dB D_z i_z) f t v_z else dB D_z j_z) 6 = _
  by_cases z_z : j_z = i_z
  · rw [if_pos z_z, mvB_sum (by omega) (by omega) hv, z_z]
  · rw [if_neg z_z]
theorem sm_st (hb : BDok B_z D_z) {i_z : Nat} (hi_z : i_z < bJa B_z) : SmD B_z D_z (jrB D_z i_z (stB (dB D_z i_z) (bLa B_z))) := fun j_z hj => by
  show su (if j_z = i_z then stB (dB D_z i_z) (bLa B_z) else dB D_z j_z) 6 = _
  by_cases z_z : j_z = i_z
  · rw [if_pos z_z, stB_sum hb.1 (hb.b0 hi_z), z_z]
  · rw [if_neg z_z]
theorem sm_doV (hb : BDok B_z D_z) {i_z : Nat} (hi_z : i_z < bLi B_z) {kd n : Nat} {x_z : Int32} (ok : okD B_z kd n) : SmD B_z D_z (doV B_z i_z kd n x_z D_z) := by
  obtain ⟨b1, b2⟩ := hb.dj hi_z
  unfold doV
  by_cases h9 : kd = 9
  · rw [if_pos h9]
    exact sm_mv hb (ok.1 (Or.inl h9)) b1 (mvN_le _ _)
  · rw [if_neg h9]
    by_cases h11 : kd = 11
    · rw [if_pos h11]
      exact SmD.rf B_z _
    · rw [if_neg h11]
      by_cases h12 : kd = 12
      · rw [if_pos h12]
        exact sm_st hb b2
      · rw [if_neg h12]
        by_cases h13 : kd = 13
        · rw [if_pos h13]
          by_cases z_z : thB (dF D_z) (bLl B_z i_z) n = true
          · rw [if_pos z_z]
            exact SmD.rf B_z _
          · rw [if_neg z_z]
            exact SmD.rf B_z _
        · rw [if_neg h13]
          exact SmD.rf B_z _
theorem doA_okD {e_z : EAc} (ok : okAc (bLa B_z) (bJa B_z) e_z) : okD B_z (acN e_z.1) e_z.2.1 := by
  obtain ⟨so, w, v_z⟩ := e_z
  obtain ⟨o1, o2, o3_z, o4_z⟩ := ok
  have o1 : so ≤ 4 := o1
  have o2 : so = 1 → w < bJa B_z := o2
  have o3_z : so ≠ 1 → w < bLa B_z := o3_z
  refine ⟨fun z_z => ?_, fun z_z => ?_⟩
  · have z_z : acN so = 9 ∨ acN so = 13 := z_z
    exact o3_z (fun e_z => by subst e_z; revert z_z; decide)
  · have z_z : acN so = 11 := z_z
    have : so = 1 := by
      rcases (by omega : so = 0 ∨ so = 1 ∨ so = 2 ∨ so = 3 ∨ so = 4) with rfl | rfl | rfl | rfl | rfl <;> first | rfl | (revert z_z; decide)
    exact o2 this
theorem sm_fold {i_z : Nat} (hi_z : i_z < bLi B_z) : ∀ (s : List EAc) (D_z : DY), BDok B_z D_z → (∀ e_z ∈ s, okAc (bLa B_z) (bJa B_z) e_z) → SmD B_z D_z (s.foldl (doA B_z i_z) D_z)
  | [], D_z, _, _ => SmD.rf B_z D_z
  | e_z :: s, D_z, hb, ok => SmD.trans (D8 := doA B_z i_z D_z e_z) (sm_doV hb hi_z (doA_okD (ok e_z List.mem_cons_self))) (sm_fold hi_z s (doA B_z i_z D_z e_z) (doA_ok hb hi_z (ok e_z List.mem_cons_self)) (fun x_z hx => ok x_z (List.mem_cons_of_mem _ hx)))
theorem sm_ldL {i_z : Nat} (hb : BDok B_z D_z) (hi_z : i_z < bLi B_z) : ∀ (rs : List ERu), (∀ e_z ∈ rs, okRu (bLa B_z) (bJa B_z) e_z) → SmD B_z D_z (ldL B_z i_z D_z rs).1
  | [], _ => SmD.rf B_z D_z
  | r :: s, ok => by
    show SmD B_z D_z (if vT1 B_z D_z i_z r.1 = 0 then ldL B_z i_z D_z s else (r.2.foldl (doA B_z i_z) D_z, r.2.length)).1
    by_cases z_z : vT1 B_z D_z i_z r.1 = 0
    · rw [if_pos z_z]
      exact sm_ldL hb hi_z s (fun x_z hx => ok x_z (List.mem_cons_of_mem _ hx))
    · rw [if_neg z_z]
      exact sm_fold hi_z r.2 D_z hb (ok r List.mem_cons_self).2.2
theorem sm_dsN (f : Fx B_z Rs) (hb : BDok B_z D_z) : ∀ n, n ≤ bLi B_z → SmD B_z D_z (dsN B_z D_z n).1 ∧ BDok B_z (dsN B_z D_z n).1
  | 0, _ => ⟨SmD.rf B_z D_z, hb⟩
  | n + 1, hn => by
    obtain ⟨s1_z, b1⟩ := sm_dsN f hb n (by omega)
    have el : ldV B_z n (dsN B_z D_z n).1 = ldL B_z n (dsN B_z D_z n).1 (Rs n) := ld_law (f.1 n (by omega)).2 (f.2.1 n (by omega))
    have e1_z : (dsN B_z D_z (n + 1)).1 = (ldL B_z n (dsN B_z D_z n).1 (Rs n)).1 := by
      show (ldV B_z n (dsN B_z D_z n).1).1 = _
      rw [el]
    refine ⟨?_, ?_⟩
    · rw [e1_z]
      exact s1_z.trans (sm_ldL b1 (by omega) _ (f.1 n (by omega)).2)
    · show BDok B_z (ldV B_z n (dsN B_z D_z n).1).1
      exact ldV_ok b1 (by omega)
theorem sm_psN (f : Fx B_z Rs) (hb : BDok B_z D_z) : ∀ n, SmD B_z D_z (psN B_z D_z n).1
  | 0 => SmD.rf B_z D_z
  | n + 1 => (sm_psN f hb n).trans (sm_dsN f (psN_ok hb n) (bLi B_z) (Nat.le_refl _)).1
-- the world
theorem WL.g (w : WL h0 h bk dr c_z di tn Rs B_z tf D_z D2 ck sk) : 216 ≤ h.1 := Nat.le_trans w.2.2.2.2.2.1 w.2.2.2.2.1.1
theorem WL.tl (w : WL h0 h bk dr c_z di tn Rs B_z tf D_z D2 ck sk) : tn < h.1 := w.2.2.2.1.1
theorem WL.sub {ck2 sk2 : Nat} (w : WL h0 h bk dr c_z di tn Rs B_z tf D_z D2 ck sk) (e1_z : ck ≤ ck2) (e2_z : sk ≤ sk2) : WL h0 h bk dr c_z di tn Rs B_z tf D_z D2 ck2 sk2 := by
  obtain ⟨q1_z, q2_z, q3_z, q4_z, ⟨g1, g2, g3_z⟩, g4⟩ := w
  exact ⟨q1_z, q2_z, q3_z, q4_z, ⟨g1, by omega, by omega⟩, g4⟩
theorem WL.cls {x_z y_z : Nat} (w : WL h0 h bk dr c_z di tn Rs B_z tf D_z D2 ck sk) (q_z : ClR h1 0 bk dr ([], -1, B_z, D9)) (x9 : Ch h h1 0 216 x_z y_z) : WL h0 h1 bk dr c_z di tn Rs B_z tf D9 D2 (ck + x_z) (sk + y_z) := by
  obtain ⟨-, ⟨fo, ja, li, xj, yl, rl, jf_z, lf_z, ha⟩, ⟨dv, da_z⟩, q4_z, ⟨g1, g2, g3_z⟩, g4, g5_z, g6⟩ := w
  have k := x9.k6
  obtain ⟨y1, y2, y3, -⟩ := x9
  exact ⟨q_z, ⟨fo, ja, li, xj, yl, rl, jf_z, lf_z, ha.k6 k⟩, ⟨dv, k.at g5_z da_z⟩, k.at g6 q4_z, ⟨by omega, by omega, by omega⟩, g4, g5_z, g6⟩
theorem WL.ch {x_z y_z : Nat} (w : WL h0 h bk dr c_z di tn Rs B_z tf D_z D2 ck sk) (x9 : Ch h h1 0 0 x_z y_z) : WL h0 h1 bk dr c_z di tn Rs B_z tf D_z D2 (ck + x_z) (sk + y_z) := by
  have g := w.g
  exact w.cls (w.1.keep x9.1 (fun i_z _ i2_z => x9.2.2.2.2 i_z (Nat.zero_le _) (by omega))) (x9.sub (Nat.le_refl _) (Nat.zero_le _) (Nat.le_refl _) (Nat.le_refl _))
theorem WL.fy {x_z y_z fo ja li : Nat} {xj yl rl : Nat → Nat} {jf_z lf_z : Nat → Option Nat} (w : WL h0 h bk dr c_z di tn Rs B_z tf D_z D2 ck sk) (q_z : HaX h1 c_z B_z D9 Rs tn fo ja li xj yl rl jf_z lf_z) (x9 : Fy h h1 tn x_z y_z) : WL h0 h1 bk dr c_z di tn Rs B_z tf D_z D9 (ck + x_z) (sk + y_z) := by
  have g := w.g
  obtain ⟨q1_z, -, ⟨dv, da_z⟩, q4_z, ⟨g1, g2, g3_z⟩, g4, g5_z, g6⟩ := w
  have da1 := x9.at da_z (Or.inl ⟨_, _, rfl, by decide, by decide, by decide⟩)
  obtain ⟨y1, y2, y3, y4⟩ := x9
  exact ⟨q1_z.keep y1 (fun i_z _ i2_z => y4 i_z (by omega) (Or.inl (by omega))), ⟨fo, ja, li, xj, yl, rl, jf_z, lf_z, q_z⟩, ⟨dv, da1⟩, q4_z.keep y1 (y4 tn q4_z.1 (Or.inr (Or.inl rfl))), ⟨by omega, by omega, by omega⟩, g4, g5_z, g6⟩
theorem KpD.dice {x_z y_z : Nat} (q_z : DiR h di) (x9 : Fc h h1 di x_z y_z) : KpD h h1 := ⟨x9.1, fun j_z o9 a_z n => x9.at a_z (a_z.ne q_z.choose_spec (fun e_z => n.1 _ e_z))⟩
theorem HaX.kd {fo ja li : Nat} {xj yl rl : Nat → Nat} {jf_z lf_z : Nat → Option Nat} (q_z : HaX h c_z B_z D2 Rs tn fo ja li xj yl rl jf_z lf_z) (k : KpD h h1) : HaX h1 c_z B_z D2 Rs tn fo ja li xj yl rl jf_z lf_z := by
  obtain ⟨bj, ff_z, a1_z, a5, ⟨a6, a7⟩, ⟨a8, a9⟩, ⟨a10, a11⟩, a12, a13, a14⟩ := q_z
  exact ⟨bj, ff_z, a1_z, k.at a5 (nd_r ⟨by decide, by decide⟩), ⟨k.at a6 (nd_a (by decide)), a7⟩, ⟨k.at a8 (nd_a (by decide)), a9⟩, ⟨k.at a10 (nd_a (by decide)), a11⟩, fun j_z hj => (a12 j_z hj).kd k, fun i_z hi_z => (a13 i_z hi_z).kd k, a14⟩
theorem s_dice {n : Nat} (hd : 1 ≤ d) (w : WL h0 h bk dr c_z di tn Rs B_z tf D_z D2 ck sk) (n1_z : 0 < n) (n2_z : n < 2147483648) : RQ G mX13_next d 0 [some (.ref di), some (.int (nI n))] [] h (Ri fun r h1 => (∃ k, k < n ∧ r = nI k) ∧ WL h0 h1 bk dr c_z di tn Rs B_z tf D_z D2 ck sk) := by
  refine RQ.imp (s_next hd w.2.2.1 n1_z n2_z) ?_
  rintro o9 h9 ⟨r, e_z, k, q_z, x9⟩
  have kd := KpD.dice w.2.2.1 x9
  have g := w.g
  obtain ⟨q1_z, ⟨fo, ja, li, xj, yl, rl, jf_z, lf_z, ha⟩, -, q4_z, ⟨g1, g2, g3_z⟩, g4, g5_z, g6⟩ := w
  obtain ⟨y1, y2, y3, y4⟩ := x9
  exact ⟨r, e_z, k, q1_z.keep y1 (fun i_z _ i2_z => y4 i_z (by omega) (by omega)), ⟨fo, ja, li, xj, yl, rl, jf_z, lf_z, ha.kd kd⟩, q_z, kd.at q4_z (nd_a (by decide)), ⟨by omega, by omega, by omega⟩, g4, g5_z, g6⟩
theorem HaX.nx {fo ja li m_z : Nat} {xj yl rl : Nat → Nat} {jf_z lf_z : Nat → Option Nat} {f : Nat → Int32} (q_z : HaX h c_z B_z D2 Rs tn fo ja li xj yl rl jf_z lf_z) (x_z : At h tn (.inl (0, m_z, .inl f))) : (∀ i_z, i_z < bLi B_z → yl i_z ≠ tn) ∧ (∀ j_z, j_z < bJa B_z → xj j_z ≠ tn) ∧ c_z ≠ tn := by
  obtain ⟨bj, ff_z, a1_z, a5, -, -, -, a12, a13, -⟩ := q_z
  exact ⟨fun i_z hi_z => (a13 i_z hi_z).2.2.1.ne x_z (fun e_z => by cases e_z), fun j_z hj => (a12 j_z hj).2.2.1.ne x_z (fun e_z => by cases e_z), a5.ne x_z (fun e_z => by cases e_z)⟩
theorem CK.x2 {M : MI} {pc : Nat} {L : List (Option Value)} {Z : List Value} {s : ST} {E1 E2 : String} {V : Int32} (r : RQ G M d pc L Z h (CK h bk dr s E1 E2 2 V)) : RQ G M d pc L Z h (fun o h1 => o = .inr E2 ∧ ClR h1 0 bk dr s ∧ Ch h h1 0 216 1 6) := by
  refine RQ.imp r ?_
  rintro o h1 ⟨⟨z_z, -⟩ | ⟨z_z, -⟩ | ⟨-, -, e_z⟩, c_z, ch⟩
  · exact absurd z_z (by decide)
  · exact absurd z_z (by decide)
  · exact ⟨e_z, c_z, ch⟩
theorem fw_same {F : Nat → Option Nat} {l : Nat} (e_z : F l = none) : fwF F l none = F := by
  funext k
  show (if k = l then none else F k) = F k
  by_cases z_z : k = l
  · rw [if_pos z_z, z_z, e_z]
  · rw [if_neg z_z]
theorem fwD_same {l : Nat} (e_z : dF D_z l = none) : fwD D_z l none = D_z := by
  obtain ⟨x1_z, x2, x3, x4_z⟩ := D_z
  show (x1_z, x2, x3, fwF x4_z l none) = _
  rw [fw_same e_z]
theorem days_c {n u : Nat} (f : Fx B_z Rs) (hu : u ≤ n) (k : Nat) : k * bLi B_z * u ≤ k * 3 * n := Nat.mul_le_mul (Nat.mul_le_mul_left k f.li) hu
def AcP (h0 : AH) (bk dr c_z di tn : Nat) (Rs : Nat → List ERu) (B_z : BK) (tf : Nat → Int32) (D_z : DY) (ck sk : Nat) : OC → AH → Prop := Ri fun v_z h1 => v_z = nI 1 ∧ ∃ D1, WL h0 h1 bk dr c_z di tn Rs B_z tf D1 D1 (ck + 8110) (sk + 54010) ∧ BDok B_z D1 ∧ SmD B_z D_z D1

set_option maxHeartbeats 4000000 in
theorem s_act84 (hd : 30 ≤ d) (hb : BDok B_z D_z) (fx : Fx B_z Rs) (w : WL h0 h bk dr c_z di tn Rs B_z tf D_z D_z ck sk) {j_z a_z b_z : Nat} (hj : j_z < bJa B_z) (h_a : a_z < bLa B_z) (h_b : b_z < bLa B_z) : RQ G mL_act d 84 [some (.ref 0), some (.ref c_z), some (.ref di), some (.int (nI (bLa B_z))), some (.int (nI j_z)), some (.int (nI a_z)), some (.int (nI b_z)), some (.int (nI 1)), none, none] [] h (AcP h0 bk dr c_z di tn Rs B_z tf D_z ck sk) := by
  have l6 := hb.1
  have l8 := hb.2.1
  have l3 := fx.li
  refine tL_act_84  (r := ?_)
  refine tL_act_86  (r := ?_)
  refine tL_act_88  (kt := fun c_88 => ?_) (kf := fun c_88 => ?_)
  · have z_z : ¬ a_z = b_z := fun e_z => c_88 (by rw [e_z])
    refine tL_act_93  (r := ?_)
    refine tL_act_94  (r := ?_)
    refine tL_act_95  (r := ?_)
    refine tL_act_96  (r := ?_)
    refine tL_act_97 (hd := (by omega)) (ha := w.2.2.1.choose_spec) (call := s_dice (d := d - 1) (by omega) w (by decide) (by decide)) (k := ?_)
    rintro v_k1 H1_z ⟨⟨k1_z, hk1, ek1⟩, w⟩
    rw [ek1]
    have R111 : ∀ n, 0 < n → n ≤ 200 → RQ G mL_act d 111 [some (.ref 0), some (.ref c_z), some (.ref di), some (.int (nI (bLa B_z))), some (.int (nI j_z)), some (.int (nI a_z)), some (.int (nI b_z)), some (.int (nI 1)), none, none] [.int (nI n), .ref di, .int (nI 1)] H1_z (AcP h0 bk dr c_z di tn Rs B_z tf D_z ck sk) := by
      intro n n1_z n2_z
      refine tL_act_111 (hd := (by omega)) (ha := w.2.2.1.choose_spec) (call := s_dice (d := d - 1) (by omega) w n1_z (by omega)) (k := ?_)
      rintro v_k2 H2_z ⟨⟨k2_z, hk2, ek2⟩, w⟩
      rw [ek2]
      refine tL_act_114  (r := ?_)
      rw [nI_add]
      refine tL_act_115  (r := ?_)
      refine tL_act_117  (r := ?_)
      refine tL_act_118  (r := ?_)
      refine tL_act_120  (r := ?_)
      refine tL_act_122  (r := ?_)
      refine tL_act_124  (r := ?_)
      have gp : ¬ (a_z = b_z ∨ nI (1 + k2_z) < nI 1 ∨ nI 200 < nI (1 + k2_z)) := by
        rintro (q_z | q_z | q_z)
        · exact z_z q_z
        · exact absurd ((nI_ltI (by omega) (by decide)).mp q_z) (by omega)
        · exact absurd ((nI_ltI (by decide) (by omega)).mp q_z) (by omega)
      refine tL_act_126 (hd := (by omega)) (ha := w.1.1) (call := CK.ri (V := nI (mvN (nI (1 + k2_z)) (dB D_z j_z a_z))) (k_pour_ok (d := d - 1) (by omega) w.1 hb w.g hj h_a h_b (a3 := nI (1 + k2_z)) gp)) (k := ?_)
      rintro v3 H3 ⟨e3_z, c3_z, x3⟩
      rw [e3_z]
      have w := w.cls c3_z x3
      obtain ⟨-, ⟨fo, ja, li, xj, yl, rl, jf_z, lf_z, ha⟩, -⟩ := id w
      obtain ⟨nly, nxy, nct⟩ := ha.nx w.2.2.2.1
      obtain ⟨bj, ff_z, ⟨g1, g2, g3_z, g4⟩, a5, ⟨a6, a7⟩, ⟨a8, a9⟩, ⟨a10, a11⟩, a12, a13, a14, a15, a16, a17, a18⟩ := id ha
      obtain ⟨be, jh, nbt, put_z⟩ := ha.put_b hj
      refine tL_act_129  (r := ?_)
      refine tL_act_130 (ha := a5) (hv := rfl) (r := ?_)
      refine tL_act_133  (r := ?_)
      refine tL_act_135 (t := 5) (ha := a8) (ht := rfl) (hx := rfl) (hj := hj) (hn := (by omega)) (hf := (a9 j_z hj)) (r := ?_)
      refine tL_act_136  (r := ?_)
      refine tL_act_138  (r := ?_)
      refine tL_act_140  (r := ?_)
      refine tL_act_142 (hd := (by omega)) (call := s_hpour (d := d - 1) (w := nI (1 + k2_z)) hb.1 jh (hb.bl hj) h_a h_b) (k := ?_)
      rintro v4_z H4 ⟨e4_z, bf2, hb2, e9_z⟩
      rw [e4_z, e9_z]
      refine tL_act_145  (kt := fun c_ => by exfalso; exact c_ rfl) (kf := fun _ => ?_)
      refine tL_act_148  (r := ?_)
      refine tL_act_149 (r := ?_)
      refine tL_act_153 (hb := (by first | exact Or.inl rfl | exact Or.inr rfl | assumption)) (hP := ?_)
      obtain ⟨z1, z2, z3, bf, z5, z6⟩ := jh
      exact ⟨_, rfl, rfl, _, (w.fy (put_z _ _ hb2) ((Fy.rf H3 tn 0 0).set z5 z2 nbt nmt0)).sub (by omega) (by omega), hb.mv hj h_a h_b (mvN_le _ _), sm_mv hb h_a h_b (mvN_le _ _)⟩
    refine tL_act_100  (kt := fun c_100 => ?_) (kf := fun c_100 => ?_)
    · refine tL_act_109  (r := ?_)
      exact R111 12 (by decide) (by decide)
    · refine tL_act_103  (r := ?_)
      refine tL_act_106 (r := ?_)
      exact R111 200 (by decide) (by decide)
  · refine tL_act_91  (r := ?_)
    refine tL_act_92 (hb := (by first | exact Or.inl rfl | exact Or.inr rfl | assumption)) (hP := ?_)
    exact ⟨_, rfl, rfl, D_z, w.sub (by omega) (by omega), hb, SmD.rf B_z D_z⟩
set_option maxHeartbeats 4000000 in
theorem s_act154 (hd : 30 ≤ d) (hb : BDok B_z D_z) (fx : Fx B_z Rs) (w : WL h0 h bk dr c_z di tn Rs B_z tf D_z D_z ck sk) {j_z a_z b_z : Nat} (hj : j_z < bJa B_z) (h_a : a_z < bLa B_z) (h_b : b_z < bLa B_z) : RQ G mL_act d 154 [some (.ref 0), some (.ref c_z), some (.ref di), some (.int (nI (bLa B_z))), some (.int (nI j_z)), some (.int (nI a_z)), some (.int (nI b_z)), some (.int (nI 1)), none, none] [] h (AcP h0 bk dr c_z di tn Rs B_z tf D_z ck sk) := by
  have l6 := hb.1
  have l8 := hb.2.1
  have l3 := fx.li
  obtain ⟨-, ⟨fo, ja, li, xj, yl, rl, jf_z, lf_z, ha⟩, -⟩ := id w
  obtain ⟨nly, nxy, nct⟩ := ha.nx w.2.2.2.1
  obtain ⟨bj, ff_z, ⟨g1, g2, g3_z, g4⟩, a5, ⟨a6, a7⟩, ⟨a8, a9⟩, ⟨a10, a11⟩, a12, a13, a14, a15, a16, a17, a18⟩ := id ha
  refine tL_act_154  (r := ?_)
  refine tL_act_155 (ha := a5) (hv := rfl) (r := ?_)
  refine tL_act_158  (r := ?_)
  refine tL_act_160 (t := 5) (ha := a8) (ht := rfl) (hx := rfl) (hj := hj) (hn := (by omega)) (hf := (a9 j_z hj)) (r := ?_)
  refine tL_act_161 (hd := (by omega)) (call := s_hshake (d := d - 1) hb.1 fx.la (a12 j_z hj) (hb.bl hj)) (k := ?_)
  rintro H1_z ⟨mf, h8, ch, am, hm_z, e9_z⟩
  rw [e9_z]
  obtain ⟨z1, z2, z3, z4⟩ := (a12 j_z hj).ch ch
  have w := w.fy (ha.put_x w.tl hj ch w.g am hm_z) (((Ch.fy ch tn).set z3 z1 (nxy _ hj) (nmtr (Or.inr (Or.inl rfl)))))
  have hbD := hb.st hj
  refine tL_act_164  (r := ?_)
  refine tL_act_165  (r := ?_)
  refine tL_act_167 (hd := (by omega)) (ha := w.1.1) (call := CK.ri (V := oI (fiN (po (rt (dF (jrB D_z j_z (stB (dB D_z j_z) (bLa B_z))))) (dB (jrB D_z j_z (stB (dB D_z j_z) (bLa B_z))) j_z)) 6)) (k_shake_ok (d := d - 1) (by omega) w.1 hb w.g hj)) (k := ?_)
  rintro v3 H3 ⟨e3_z, c3_z, x3⟩
  rw [e3_z]
  have w := w.cls c3_z x3
  obtain ⟨-, ⟨fo, ja, li, xj, yl, rl, jf_z, lf_z, ha⟩, -⟩ := id w
  obtain ⟨nly, nxy, nct⟩ := ha.nx w.2.2.2.1
  obtain ⟨bj, ff_z, ⟨g1, g2, g3_z, g4⟩, a5, ⟨a6, a7⟩, ⟨a8, a9⟩, ⟨a10, a11⟩, a12, a13, a14, a15, a16, a17, a18⟩ := id ha
  have ps_z := hbD.ps j_z
  have bs9 := hbD.bs9 hj
  refine tL_act_170  (r := ?_)
  refine tL_act_171  (r := ?_)
  refine tL_act_172 (ha := a5) (hv := rfl) (r := ?_)
  refine tL_act_175  (r := ?_)
  refine tL_act_177 (t := 5) (ha := a8) (ht := rfl) (hx := rfl) (hj := hj) (hn := (by omega)) (hf := (a9 j_z hj)) (r := ?_)
  refine tL_act_178 (hd := (by omega)) (ha := a5) (call := s_blocs (d := d - 1) (by omega) hbD.1 ha.to.fo hbD.hF hbD.hR hbD.hl (a12 j_z hj) (hbD.b0 hj)) (k := ?_)
  rintro ar H4 ⟨ga, ⟨pf, ap, hp⟩, ch4⟩
  have w := w.ch ch4
  refine tL_act_181 (hd := (by omega)) (call := s_hfirst (d := d - 1) (by omega) ap hp (fun k hk => by have := po_le (r := rt (dF (jrB D_z j_z (stB (dB D_z j_z) (bLa B_z))))) bs9 k; omega)) (k := ?_)
  rintro v0_z h_ ⟨rfl, e9_z⟩
  rw [e9_z, fi_six hbD.1 (fun k k1_z k2_z => po_z hbD (by omega) k k1_z k2_z)]
  refine tL_act_184  (kt := fun c_ => by exfalso; exact c_ rfl) (kf := fun _ => ?_)
  refine tL_act_187  (r := ?_)
  refine tL_act_188 (r := ?_)
  refine tL_act_192 (hb := (by first | exact Or.inl rfl | exact Or.inr rfl | assumption)) (hP := ?_)
  exact ⟨_, rfl, rfl, _, w.sub (by omega) (by omega), hbD, sm_st hb hj⟩
set_option maxHeartbeats 4000000 in
theorem s_act193 (hd : 30 ≤ d) (hb : BDok B_z D_z) (fx : Fx B_z Rs) (w : WL h0 h bk dr c_z di tn Rs B_z tf D_z D_z ck sk) {j_z a_z b_z : Nat} (hj : j_z < bJa B_z) (h_a : a_z < bLa B_z) (h_b : b_z < bLa B_z) : RQ G mL_act d 193 [some (.ref 0), some (.ref c_z), some (.ref di), some (.int (nI (bLa B_z))), some (.int (nI j_z)), some (.int (nI a_z)), some (.int (nI b_z)), some (.int (nI 1)), none, none] [] h (AcP h0 bk dr c_z di tn Rs B_z tf D_z ck sk) := by
  have l6 := hb.1
  have l8 := hb.2.1
  have l3 := fx.li
  obtain ⟨-, ⟨fo, ja, li, xj, yl, rl, jf_z, lf_z, ha⟩, -⟩ := id w
  obtain ⟨nly, nxy, nct⟩ := ha.nx w.2.2.2.1
  obtain ⟨bj, ff_z, ⟨g1, g2, g3_z, g4⟩, a5, ⟨a6, a7⟩, ⟨a8, a9⟩, ⟨a10, a11⟩, a12, a13, a14, a15, a16, a17, a18⟩ := id ha
  refine tL_act_193  (r := ?_)
  refine tL_act_194 (ha := a5) (hv := rfl) (r := ?_)
  refine tL_act_197 (ha := a10) (ht := rfl) (r := ?_)
  refine tL_act_198  (kt := fun c_198 => ?_) (kf := fun c_198 => ?_)
  · have z_z : ¬ bLi B_z = 0 := fun e_z => c_198 (by show nI (bLi B_z) = 0; rw [e_z]; rfl)
    refine tL_act_203  (r := ?_)
    refine tL_act_204 (ha := a5) (hv := rfl) (r := ?_)
    refine tL_act_207  (r := ?_)
    refine tL_act_209  (r := ?_)
    refine tL_act_210 (ha := a5) (hv := rfl) (r := ?_)
    refine tL_act_213 (ha := a10) (ht := rfl) (r := ?_)
    refine tL_act_214 (hne := c_198) (r := ?_)
    show RQ G mL_act d 215 _ (.int (nI a_z - nI a_z / nI (bLi B_z) * nI (bLi B_z)) :: _) h _
    rw [rem_nn (by omega) (by omega) (by omega)]
    have hq : a_z % bLi B_z < bLi B_z := Nat.mod_lt _ (by omega)
    obtain ⟨q1_z, q2_z, q3_z, q4_z⟩ := a13 _ hq
    refine tL_act_215 (t := 6) (ha := a10) (ht := rfl) (hx := rfl) (hj := hq) (hn := (by omega)) (hf := (a11 _ hq)) (r := ?_)
    refine tL_act_216  (r := ?_)
    refine tL_act_218  (r := ?_)
    refine tL_act_220 (ha := q3_z) (hv := rfl) (r := ?_)
    refine tL_act_223  (r := ?_)
    refine tL_act_225  (r := ?_)
    refine tL_act_227  (r := ?_)
    refine tL_act_229 (ha := q3_z) (hlen := rfl) (r := ?_)
    have w := w.fy (HaX.put_l ha hq j_z) ((Fy.rf h tn 0 0).set q3_z q1_z (nly _ hq) (nmtr (Or.inr (Or.inr rfl))))
    obtain ⟨-, ⟨fo, ja, li, xj, yl, rl, jf_z, lf_z, ha⟩, -⟩ := id w
    obtain ⟨nly, nxy, nct⟩ := ha.nx w.2.2.2.1
    obtain ⟨bj, ff_z, ⟨g1, g2, g3_z, g4⟩, a5, ⟨a6, a7⟩, ⟨a8, a9⟩, ⟨a10, a11⟩, a12, a13, a14, a15, a16, a17, a18⟩ := id ha
    refine tL_act_232  (r := ?_)
    refine tL_act_233  (r := ?_)
    refine tL_act_235  (r := ?_)
    refine tL_act_236 (ha := a5) (hv := rfl) (r := ?_)
    refine tL_act_239 (ha := a10) (ht := rfl) (r := ?_)
    refine tL_act_240 (hne := c_198) (r := ?_)
    show RQ G mL_act d 241 _ (.int (nI a_z - nI a_z / nI (bLi B_z) * nI (bLi B_z)) :: _) _ _
    rw [rem_nn (by omega) (by omega) (by omega)]
    refine tL_act_241  (r := ?_)
    refine tL_act_243 (hd := (by omega)) (ha := w.1.1) (call := CK.ri (V := nI (dL D_z (a_z % bLi B_z))) (k_putLid_ok (d := d - 1) (by omega) w.1 hb w.g hq hj)) (k := ?_)
    rintro v3 H3 ⟨e3_z, c3_z, x3⟩
    rw [e3_z]
    have w := w.cls (D9 := hoD D_z (a_z % bLi B_z) j_z) c3_z x3
    refine tL_act_246  (r := ?_)
    refine tL_act_248  (kt := fun c_ => by exfalso; exact c_ rfl) (kf := fun _ => ?_)
    refine tL_act_251  (r := ?_)
    refine tL_act_252 (r := ?_)
    refine tL_act_256 (hb := (by first | exact Or.inl rfl | exact Or.inr rfl | assumption)) (hP := ?_)
    exact ⟨_, rfl, rfl, _, w.sub (by omega) (by omega), hb.ho hj, SmD.rf B_z D_z⟩
  · refine tL_act_201  (r := ?_)
    refine tL_act_202 (hb := (by first | exact Or.inl rfl | exact Or.inr rfl | assumption)) (hP := ?_)
    exact ⟨_, rfl, rfl, D_z, w.sub (by omega) (by omega), hb, SmD.rf B_z D_z⟩
set_option maxHeartbeats 4000000 in
theorem s_act257 (hd : 30 ≤ d) (hb : BDok B_z D_z) (fx : Fx B_z Rs) (w : WL h0 h bk dr c_z di tn Rs B_z tf D_z D_z ck sk) {j_z a_z b_z : Nat} (hj : j_z < bJa B_z) (h_a : a_z < bLa B_z) (h_b : b_z < bLa B_z) : RQ G mL_act d 257 [some (.ref 0), some (.ref c_z), some (.ref di), some (.int (nI (bLa B_z))), some (.int (nI j_z)), some (.int (nI a_z)), some (.int (nI b_z)), some (.int (nI 1)), none, none] [] h (AcP h0 bk dr c_z di tn Rs B_z tf D_z ck sk) := by
  have l6 := hb.1
  have l8 := hb.2.1
  have l3 := fx.li
  obtain ⟨-, ⟨fo, ja, li, xj, yl, rl, jf_z, lf_z, ha⟩, -⟩ := id w
  obtain ⟨nly, nxy, nct⟩ := ha.nx w.2.2.2.1
  obtain ⟨bj, ff_z, ⟨g1, g2, g3_z, g4⟩, a5, ⟨a6, a7⟩, ⟨a8, a9⟩, ⟨a10, a11⟩, a12, a13, a14, a15, a16, a17, a18⟩ := id ha
  refine tL_act_257  (r := ?_)
  refine tL_act_258  (r := ?_)
  refine tL_act_260  (r := ?_)
  refine tL_act_262 (hd := (by omega)) (ha := a5) (call := s_hund hb.1 ha.to.fo hb.hF h_a 6 (d - 1) b_z (by omega) h_b (hb.hR b_z h_b)) (k := ?_)
  rintro v1_z h_ ⟨ev_z, e9_z⟩
  rw [ev_z, e9_z]
  refine tL_act_265  (kt := fun c_265 => ?_) (kf := fun c_265 => ?_)
  · have t0_z : thr (dF D_z) a_z b_z := (thr9_iff 6 b_z (hb.hR b_z h_b)).mp (Classical.byContradiction (fun y_z => c_265 (by rw [if_neg y_z]; rfl)))
    refine tL_act_272  (r := ?_)
    refine tL_act_273  (r := ?_)
    refine tL_act_275  (r := ?_)
    refine tL_act_277  (kf := fun c_ => by exfalso; exact c_ (by decide)) (kt := fun _ => ?_)
    refine tL_act_289  (r := ?_)
    refine tL_act_290  (r := ?_)
    refine tL_act_292  (r := ?_)
    refine tL_act_294x (hd := (by omega)) (ha := w.1.1) (call := CK.x2 (k_join_no3 (d := d - 1) (V := 0) (by omega) w.1 hb w.g h_a h_b t0_z)) (k := ?_)
    rintro H3 ⟨c3_z, x3⟩
    have w := w.cls c3_z x3
    refine tL_act_413  (r := ?_)
    refine tL_act_415  (kt := fun c_ => by exfalso; exact c_ (by decide)) (kf := fun _ => ?_)
    refine tL_act_418  (r := ?_)
    refine tL_act_419 (r := ?_)
    refine tL_act_423 (hb := (by first | exact Or.inl rfl | exact Or.inr rfl | assumption)) (hP := ?_)
    exact ⟨_, rfl, rfl, D_z, w.sub (by omega) (by omega), hb, SmD.rf B_z D_z⟩
  · have t0_z : ¬ thr (dF D_z) a_z b_z := fun y_z => by
      rw [if_pos ((thr9_iff 6 b_z (hb.hR b_z h_b)).mpr y_z)] at c_265
      exact absurd c_265 (by decide)
    refine tL_act_268  (r := ?_)
    refine tL_act_269 (r := ?_)
    refine tL_act_273  (r := ?_)
    refine tL_act_275  (r := ?_)
    refine tL_act_277  (kt := fun c_ => by exfalso; exact absurd c_ (by decide)) (kf := fun _ => ?_)
    refine tL_act_280  (r := ?_)
    refine tL_act_281 (ha := a5) (hv := rfl) (r := ?_)
    refine tL_act_284  (r := ?_)
    refine tL_act_286  (r := ?_)
    obtain ⟨af0, af, putf⟩ := ha.put_f
    refine tL_act_288 (ha := af) (hx := rfl) (hj := h_a) (hn := (by omega)) (r := ?_)
    have w := w.fy (putf a_z (some b_z)) ((Fy.rf h tn 0 0).set af g2 a17 nmt0)
    refine tL_act_289  (r := ?_)
    refine tL_act_290  (r := ?_)
    refine tL_act_292  (r := ?_)
    refine tL_act_294 (hd := (by omega)) (ha := w.1.1) (call := CK.ri (V := nI (rt (dF (fwD D_z a_z (some b_z))) a_z)) (k_join_ok (d := d - 1) (by omega) w.1 hb w.g h_a h_b t0_z)) (k := ?_)
    rintro v3 H3 ⟨e3_z, c3_z, x3⟩
    rw [e3_z]
    have w := w.cls c3_z x3
    have hbD : BDok B_z (fwD D_z a_z (some b_z)) := hb.fw h_a (fun k e_z => by cases e_z; exact ⟨h_b, t0_z⟩)
    obtain ⟨-, ⟨fo, ja, li, xj, yl, rl, jf_z, lf_z, ha⟩, -⟩ := id w
    obtain ⟨nly, nxy, nct⟩ := ha.nx w.2.2.2.1
    obtain ⟨bj, ff_z, ⟨g1, g2, g3_z, g4⟩, a5, ⟨a6, a7⟩, ⟨a8, a9⟩, ⟨a10, a11⟩, a12, a13, a14, a15, a16, a17, a18⟩ := id ha
    refine tL_act_297  (r := ?_)
    refine tL_act_298  (r := ?_)
    refine tL_act_300 (hd := (by omega)) (ha := a5) (call := s_leader (d := d - 1) (by omega) hbD.1 ha.to.fo hbD.hF hbD.hR h_a) (k := ?_)
    rintro v0_z h_ ⟨rfl, e9_z⟩
    rw [e9_z]
    refine tL_act_303  (kt := fun c_ => by exfalso; exact c_ rfl) (kf := fun _ => ?_)
    refine tL_act_306  (r := ?_)
    refine tL_act_308  (kt := fun c_ => by exfalso; exact absurd c_ (by decide)) (kf := fun _ => ?_)
    refine tL_act_311  (r := ?_)
    refine tL_act_312 (r := ?_)
    refine tL_act_316 (hb := (by first | exact Or.inl rfl | exact Or.inr rfl | assumption)) (hP := ?_)
    exact ⟨_, rfl, rfl, _, w.sub (by omega) (by omega), hbD, SmD.rf B_z D_z⟩
set_option maxHeartbeats 4000000 in
theorem s_act317 (hd : 30 ≤ d) (hb : BDok B_z D_z) (fx : Fx B_z Rs) (w : WL h0 h bk dr c_z di tn Rs B_z tf D_z D_z ck sk) {j_z a_z b_z : Nat} (hj : j_z < bJa B_z) (h_a : a_z < bLa B_z) (h_b : b_z < bLa B_z) : RQ G mL_act d 317 [some (.ref 0), some (.ref c_z), some (.ref di), some (.int (nI (bLa B_z))), some (.int (nI j_z)), some (.int (nI a_z)), some (.int (nI b_z)), some (.int (nI 1)), none, none] [] h (AcP h0 bk dr c_z di tn Rs B_z tf D_z ck sk) := by
  have l6 := hb.1
  have l8 := hb.2.1
  have l3 := fx.li
  obtain ⟨-, ⟨fo, ja, li, xj, yl, rl, jf_z, lf_z, ha⟩, -⟩ := id w
  obtain ⟨nly, nxy, nct⟩ := ha.nx w.2.2.2.1
  obtain ⟨bj, ff_z, ⟨g1, g2, g3_z, g4⟩, a5, ⟨a6, a7⟩, ⟨a8, a9⟩, ⟨a10, a11⟩, a12, a13, a14, a15, a16, a17, a18⟩ := id ha
  refine tL_act_317  (r := ?_)
  refine tL_act_318 (ha := a5) (hv := rfl) (r := ?_)
  refine tL_act_321  (r := ?_)
  refine tL_act_323 (ha := a6) (hx := rfl) (hj := h_a) (hn := (by omega)) (r := ?_)
  rw [a7 a_z h_a]
  by_cases e_z : dF D_z a_z = none
  · have e3_z : oI (dF D_z a_z) = -1 := by rw [e_z]; rfl
    rw [e3_z]
    refine tL_act_324  (r := ?_)
    refine tL_act_326  (r := ?_)
    refine tL_act_328  (kf := fun c_ => by exfalso; exact c_ (by decide)) (kt := fun _ => ?_)
    refine tL_act_335  (r := ?_)
    refine tL_act_336  (r := ?_)
    refine tL_act_338  (r := ?_)
    refine tL_act_339 (ha := a5) (hv := rfl) (r := ?_)
    refine tL_act_342  (r := ?_)
    refine tL_act_344  (r := ?_)
    obtain ⟨af0, af, putf⟩ := ha.put_f
    refine tL_act_345 (ha := af) (hx := rfl) (hj := h_a) (hn := (by omega)) (r := ?_)
    have w := w.fy (putf a_z none) ((Fy.rf h tn 0 0).set af g2 a17 nmt0)
    rw [fwD_same e_z] at w
    refine tL_act_346  (r := ?_)
    refine tL_act_347  (r := ?_)
    refine tL_act_349x (hd := (by omega)) (ha := w.1.1) (call := CK.x2 (k_leave_no2 (d := d - 1) (V := 0) (by omega) w.1 hb w.g h_a e_z)) (k := ?_)
    rintro H3 ⟨c3_z, x3⟩
    have w := w.cls c3_z x3
    refine tL_act_413  (r := ?_)
    refine tL_act_415  (kt := fun c_ => by exfalso; exact c_ (by decide)) (kf := fun _ => ?_)
    refine tL_act_418  (r := ?_)
    refine tL_act_419 (r := ?_)
    refine tL_act_423 (hb := (by first | exact Or.inl rfl | exact Or.inr rfl | assumption)) (hP := ?_)
    exact ⟨_, rfl, rfl, D_z, w.sub (by omega) (by omega), hb, SmD.rf B_z D_z⟩
  · obtain ⟨k, e2_z⟩ : ∃ k, dF D_z a_z = some k := by
      cases e2_z : dF D_z a_z with
      | none => exact absurd e2_z e_z
      | some k => exact ⟨k, rfl⟩
    have lk_z := hb.hF a_z k h_a e2_z
    have e3_z : oI (dF D_z a_z) = nI k := by rw [e2_z]; rfl
    rw [e3_z]
    refine tL_act_324  (r := ?_)
    refine tL_act_326  (r := ?_)
    refine tL_act_328  (kt := fun c_ => by exfalso; exact absurd c_ (nI_pos (by omega))) (kf := fun _ => ?_)
    refine tL_act_331  (r := ?_)
    refine tL_act_332 (r := ?_)
    refine tL_act_336  (r := ?_)
    refine tL_act_338  (r := ?_)
    refine tL_act_339 (ha := a5) (hv := rfl) (r := ?_)
    refine tL_act_342  (r := ?_)
    refine tL_act_344  (r := ?_)
    obtain ⟨af0, af, putf⟩ := ha.put_f
    refine tL_act_345 (ha := af) (hx := rfl) (hj := h_a) (hn := (by omega)) (r := ?_)
    have w := w.fy (putf a_z none) ((Fy.rf h tn 0 0).set af g2 a17 nmt0)
    refine tL_act_346  (r := ?_)
    refine tL_act_347  (r := ?_)
    refine tL_act_349 (hd := (by omega)) (ha := w.1.1) (call := CK.ri (V := oI (dF D_z a_z)) (k_leave_ok (d := d - 1) (by omega) w.1 hb w.g h_a e_z)) (k := ?_)
    rintro v3 H3 ⟨e4_z, c3_z, x3⟩
    rw [e4_z, e3_z]
    have w := w.cls c3_z x3
    refine tL_act_352  (r := ?_)
    refine tL_act_354  (kt := fun c_ => by exfalso; exact c_ rfl) (kf := fun _ => ?_)
    refine tL_act_357  (r := ?_)
    refine tL_act_359  (kt := fun c_ => by exfalso; exact absurd c_ (by decide)) (kf := fun _ => ?_)
    refine tL_act_362  (r := ?_)
    refine tL_act_363 (r := ?_)
    refine tL_act_367 (hb := (by first | exact Or.inl rfl | exact Or.inr rfl | assumption)) (hP := ?_)
    exact ⟨_, rfl, rfl, _, w.sub (by omega) (by omega), hb.fw h_a (fun k e_z => by cases e_z), SmD.rf B_z D_z⟩
set_option maxHeartbeats 4000000 in
theorem s_act368 (hd : 30 ≤ d) (hb : BDok B_z D_z) (fx : Fx B_z Rs) (w : WL h0 h bk dr c_z di tn Rs B_z tf D_z D_z ck sk) {j_z a_z b_z : Nat} (hj : j_z < bJa B_z) (h_a : a_z < bLa B_z) (h_b : b_z < bLa B_z) : RQ G mL_act d 368 [some (.ref 0), some (.ref c_z), some (.ref di), some (.int (nI (bLa B_z))), some (.int (nI j_z)), some (.int (nI a_z)), some (.int (nI b_z)), some (.int (nI 1)), none, none] [] h (AcP h0 bk dr c_z di tn Rs B_z tf D_z ck sk) := by
  have l6 := hb.1
  have l8 := hb.2.1
  have l3 := fx.li
  refine tL_act_368  (r := ?_)
  refine tL_act_369  (r := ?_)
  refine tL_act_370  (r := ?_)
  refine tL_act_371  (r := ?_)
  refine tL_act_372 (hd := (by omega)) (ha := w.2.2.1.choose_spec) (call := s_dice (d := d - 1) (by omega) w (by decide) (by decide)) (k := ?_)
  rintro v_k1 H1_z ⟨⟨k1_z, hk1, ek1⟩, w⟩
  rw [ek1]
  have R384 : ∀ n, 0 < n → n ≤ 9 → RQ G mL_act d 384 [some (.ref 0), some (.ref c_z), some (.ref di), some (.int (nI (bLa B_z))), some (.int (nI j_z)), some (.int (nI a_z)), some (.int (nI b_z)), some (.int (nI 1)), none, none] [.int (nI n), .ref di, .int (nI 1)] H1_z (AcP h0 bk dr c_z di tn Rs B_z tf D_z ck sk) := by
    intro n n1_z n2_z
    refine tL_act_384 (hd := (by omega)) (ha := w.2.2.1.choose_spec) (call := s_dice (d := d - 1) (by omega) w n1_z (by omega)) (k := ?_)
    rintro v_k2 H2_z ⟨⟨k2_z, hk2, ek2⟩, w⟩
    rw [ek2]
    refine tL_act_387  (r := ?_)
    rw [nI_add]
    obtain ⟨m_z, em⟩ : ∃ m_z, m_z = 1 + k2_z := ⟨_, rfl⟩
    rw [← em]
    refine tL_act_388  (r := ?_)
    refine tL_act_390  (r := ?_)
    refine tL_act_391  (r := ?_)
    have gp : ¬ (nI m_z < nI 1 ∨ nI 60 < nI m_z) := by
      rintro (q_z | q_z)
      · exact absurd ((nI_ltI (by omega) (by decide)).mp q_z) (by omega)
      · exact absurd ((nI_ltI (by decide) (by omega)).mp q_z) (by omega)
    refine tL_act_393 (hd := (by omega)) (ha := w.1.1) (call := CK.ri (V := nI (psN B_z D_z m_z).2) (k_pass_ok (d := d - 1) (by omega) w.1 hb w.g (n := m_z) (by omega) gp)) (k := ?_)
    rintro v3 H3 ⟨e3_z, c3_z, x3⟩
    rw [e3_z]
    have w := w.cls (D9 := (psN B_z D_z m_z).1) c3_z x3
    obtain ⟨-, ⟨fo, ja, li, xj, yl, rl, jf_z, lf_z, ha⟩, -⟩ := id w
    obtain ⟨nly, nxy, nct⟩ := ha.nx w.2.2.2.1
    obtain ⟨bj, ff_z, ⟨g1, g2, g3_z, g4⟩, a5, ⟨a6, a7⟩, ⟨a8, a9⟩, ⟨a10, a11⟩, a12, a13, a14, a15, a16, a17, a18⟩ := id ha
    refine tL_act_396  (r := ?_)
    refine tL_act_397  (r := ?_)
    refine tL_act_399 (hd := (by omega)) (ha := a5) (call := s_hpasses (d := d - 1) (by omega) hb ha w.tl w.g nly nxy nct fx.1 fx.2.1 (u := m_z) (by omega)) (k := ?_)
    rintro v4_z H4 ⟨e4_z, ha4, fy4⟩
    rw [e4_z]
    have w := w.fy ha4 fy4
    have d1_z := days_c (u := m_z) (n := 9) fx (by omega) 300
    have d2_z := days_c (u := m_z) (n := 9) fx (by omega) 2000
    refine tL_act_402  (kt := fun c_ => by exfalso; exact c_ rfl) (kf := fun _ => ?_)
    refine tL_act_405  (r := ?_)
    refine tL_act_406 (r := ?_)
    refine tL_act_410 (hb := (by first | exact Or.inl rfl | exact Or.inr rfl | assumption)) (hP := ?_)
    exact ⟨_, rfl, rfl, _, w.sub (by omega) (by omega), psN_ok hb m_z, sm_psN fx hb m_z⟩
  refine tL_act_375  (kt := fun c_375 => ?_) (kf := fun c_375 => ?_)
  · refine tL_act_383  (r := ?_)
    exact R384 2 (by decide) (by decide)
  · refine tL_act_378  (r := ?_)
    refine tL_act_380 (r := ?_)
    exact R384 9 (by decide) (by decide)
set_option maxHeartbeats 4000000 in
theorem s_lact (hd : 30 ≤ d) (hb : BDok B_z D_z) (fx : Fx B_z Rs) (w : WL h0 h bk dr c_z di tn Rs B_z tf D_z D_z ck sk) : RQ G mL_act d 0 [some (.ref 0), some (.ref c_z), some (.ref di), none, none, none, none, none, none, none] [] h (AcP h0 bk dr c_z di tn Rs B_z tf D_z ck sk) := by
  have l6 := hb.1
  have l8 := hb.2.1
  have l3 := fx.li
  obtain ⟨-, ⟨fo, ja, li, xj, yl, rl, jf_z, lf_z, ha⟩, -⟩ := id w
  obtain ⟨nly, nxy, nct⟩ := ha.nx w.2.2.2.1
  obtain ⟨bj, ff_z, ⟨g1, g2, g3_z, g4⟩, a5, ⟨a6, a7⟩, ⟨a8, a9⟩, ⟨a10, a11⟩, a12, a13, a14, a15, a16, a17, a18⟩ := id ha
  refine tL_act_0  (r := ?_)
  refine tL_act_1 (ha := a5) (hv := rfl) (r := ?_)
  refine tL_act_4 (ha := a6) (ht := rfl) (r := ?_)
  refine tL_act_5  (r := ?_)
  refine tL_act_6  (r := ?_)
  refine tL_act_7  (r := ?_)
  refine tL_act_8 (ha := a5) (hv := rfl) (r := ?_)
  refine tL_act_11 (ha := a8) (ht := rfl) (r := ?_)
  refine tL_act_12 (hd := (by omega)) (ha := w.2.2.1.choose_spec) (call := s_dice (d := d - 1) (n := bJa B_z) (by omega) w fx.ja (by omega)) (k := ?_)
  rintro v1_z H1_z ⟨⟨j_z, hj, ej⟩, w⟩
  rw [ej]
  refine tL_act_15  (r := ?_)
  refine tL_act_17  (r := ?_)
  refine tL_act_18  (r := ?_)
  refine tL_act_19 (hd := (by omega)) (ha := w.2.2.1.choose_spec) (call := s_dice (d := d - 1) (n := bLa B_z) (by omega) w fx.la (by omega)) (k := ?_)
  rintro v2 H2_z ⟨⟨a_z, h_a, ea⟩, w⟩
  rw [ea]
  refine tL_act_22  (r := ?_)
  refine tL_act_24  (r := ?_)
  refine tL_act_25  (r := ?_)
  refine tL_act_26 (hd := (by omega)) (ha := w.2.2.1.choose_spec) (call := s_dice (d := d - 1) (n := bLa B_z) (by omega) w fx.la (by omega)) (k := ?_)
  rintro v3 H3 ⟨⟨b_z, h_b, eb⟩, w⟩
  rw [eb]
  refine tL_act_29  (r := ?_)
  refine tL_act_31  (r := ?_)
  refine tL_act_32  (r := ?_)
  refine tL_act_34  (r := ?_)
  refine tL_act_35  (r := ?_)
  refine tL_act_37 (hd := (by omega)) (ha := w.2.2.1.choose_spec) (call := s_dice (d := d - 1) (n := 10) (by omega) w (by decide) (by decide)) (k := ?_)
  rintro v4_z H4 ⟨⟨k, hk, ek⟩, w⟩
  rw [ek]
  rcases (by omega : k = 0 ∨ k = 1 ∨ k = 2 ∨ k = 3 ∨ k = 4 ∨ k = 5 ∨ k = 6 ∨ 7 ≤ k) with z_z | z_z | z_z | z_z | z_z | z_z | z_z | z_z
  · rw [z_z]
    exact tL_act_40 (n := 0) (hn := by decide) (r := s_act84 hd hb fx w hj h_a h_b)
  · rw [z_z]
    exact tL_act_40 (n := 1) (hn := by decide) (r := s_act84 hd hb fx w hj h_a h_b)
  · rw [z_z]
    exact tL_act_40 (n := 2) (hn := by decide) (r := s_act154 hd hb fx w hj h_a h_b)
  · rw [z_z]
    exact tL_act_40 (n := 3) (hn := by decide) (r := s_act193 hd hb fx w hj h_a h_b)
  · rw [z_z]
    exact tL_act_40 (n := 4) (hn := by decide) (r := s_act257 hd hb fx w hj h_a h_b)
  · rw [z_z]
    exact tL_act_40 (n := 5) (hn := by decide) (r := s_act257 hd hb fx w hj h_a h_b)
  · rw [z_z]
    exact tL_act_40 (n := 6) (hn := by decide) (r := s_act317 hd hb fx w hj h_a h_b)
  · have es : sw_L_act k = 368 := by
      rcases (by omega : k = 7 ∨ k = 8 ∨ k = 9) with y_z | y_z | y_z <;> rw [y_z] <;> rfl
    refine tL_act_40 (n := k) (hn := by omega) (r := ?_)
    rw [es]
    exact s_act368 hd hb fx w hj h_a h_b
end F3
