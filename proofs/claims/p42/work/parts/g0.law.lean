/-! a time: a cupboard is drawn, told and led; the law -/
section G0
variable {G : GT} {d c_z di tn bk dr ck sk : Nat} {h0 h h1 : AH} {B_z : BK} {D_z : DY}
theorem s_cell {k : Nat} (hg : gN G < 2147483000) (hk : k < 100) : RQ G mL_cell d 0 [some (.ref (OLD + 999)), some (.int (nI k))] [] h (Ri fun _ h1 => h1 = h) := by
  refine tL_cell_0 (r := ?_)
  refine tL_cell_1 (r := ?_)
  refine tL_cell_2 (r := ?_)
  refine tL_cell_3 (kt := fun c_3 => ?_) (kf := fun c_3 => ?_)
  · refine tL_cell_12 (r := ?_)
    refine tL_cell_14 (r := ?_)
    refine tL_cell_15 (r := ?_)
    refine tL_cell_16 (r := ?_)
    refine tL_cell_17 (r := ?_)
    refine tL_cell_18 (hP := ?_)
    exact ⟨_, rfl, rfl⟩
  · have z_z : k < gN G := Classical.byContradiction (fun y_z => c_3 ((nI_leI (by omega) (by omega)).mpr (by omega)))
    refine tL_cell_6 (r := ?_)
    refine tL_cell_7 (r := ?_)
    refine tL_cell_8 (hx := rfl) (hj := z_z) (hn := by omega) (r := ?_)
    refine tL_cell_9 (r := ?_)
    refine tL_cell_18 (hP := ?_)
    exact ⟨_, rfl, rfl⟩
theorem s_diInit (hd : 1 ≤ d) {a : Nat} {x y_z : Int32} (q_z : At h a (.inr (11, [.int x]))) : RQ G mX13_init d 0 [some (.ref a), some (.int y_z)] [] h (Rv fun h1 => h1 = hset h a (.inr (11, [.int y_z]))) := by
  refine tX13_init_0 (r := ?_)
  refine tX13_init_1 (hd := hd) (r := ?_)
  refine tX13_init_4 (r := ?_)
  refine tX13_init_5 (r := ?_)
  refine tX13_init_6 (ha := q_z) (hlen := rfl) (r := ?_)
  refine tX13_init_9 (hP := ?_)
  exact ⟨rfl, rfl⟩
theorem ckd {M : MI} {pc : Nat} {L : List (Option Value)} {Z : List Value} {s : ST} {V : Int32} (r : RQ G M d pc L Z h (fun o h1 => o = .inl (some (Value.int V)) ∧ ClR h1 0 bk dr s ∧ Ch h h1 0 216 0 0)) : RQ G M d pc L Z h (Ri fun v_z h1 => v_z = V ∧ ClR h1 0 bk dr s ∧ Ch h h1 0 216 0 0) := by
  refine RQ.imp r ?_
  rintro o h1 ⟨e_z, q_z, ch_z⟩
  exact ⟨V, e_z, rfl, q_z, ch_z⟩
theorem BldR.base {hA : AH} {b ck2 sk2 : Nat} {t : List Nat} (x : BldR hA h b t ck sk) (e_z : Ch h0 hA 0 0 ck2 sk2) : BldR h0 h b t (ck2 + ck) (sk2 + sk) := by
  obtain ⟨v_z, x1_z, x2_z, x3, x4_z⟩ := x
  have := e_z.1
  exact ⟨v_z, x1_z, by omega, by omega, e_z.trans x4_z⟩
theorem DrS.fx {la e_z : Nat} {js : List EJa} {ls : List ELi} {dd : DRF} (q_z : DrS la js ls dd) (ok : okB e_z la js ls) (l0 : 0 < la) (r2 : ∀ x ∈ ls, x.2.2.length ≤ 2) : Fx dd.1 (rsA ls) := by
  refine ⟨q_z.ru ok r2, q_z.li, ?_, ?_, ?_⟩
  · rw [q_z.1.2.2]
    exact ok.2.2.1
  · rw [q_z.1.1]
    exact l0
  · rw [q_z.1.2.1]
    exact ok.2.1.1
/-- the law's world between its times -/
def TmW (h : AH) (bk dr t : Nat) (B_z : BK) (D_z : DY) : Prop := ClR h 0 bk dr ([], -1, B_z, D_z) ∧ BDok B_z D_z ∧ 216 ≤ h.1 ∧ h.1 ≤ 216 + 196000 * t ∧ h.2.1 ≤ 7000 + 2100000 * t

set_option maxHeartbeats 4000000 in
set_option maxRecDepth 100000 in
theorem s_time (hd : 200 ≤ d) (hg : gN G < 2147483000) {t : Nat} (t2 : t < 2) {B_z : BK} {D_z : DY} {x3 x4_z x5_z x6 x7 x8 x9 x10 x11 x12 x13 x14 x15 x16 x17 x18 x19 : Option Value} {P : OC → AH → Prop} (tw : TmW h bk dr t B_z D_z) (r : ∀ (h1 : AH) (bk dr : Nat) (B_z : BK) (D_z : DY) (x3 x4_z x5_z x6 x7 x8 x9 x10 x11 x12 x13 x14 x15 x16 x17 x18 x19 : Option Value), TmW h1 bk dr (t + 1) B_z D_z → RQ G mL_law d 1092 [some (.ref (OLD + 999)), some (.ref 0), some (.int (nI (t))), x3, x4_z, x5_z, x6, x7, x8, x9, x10, x11, x12, x13, x14, x15, x16, x17, x18, x19] [] h1 P) : RQ G mL_law d 15 [some (.ref (OLD + 999)), some (.ref 0), some (.int (nI (t))), x3, x4_z, x5_z, x6, x7, x8, x9, x10, x11, x12, x13, x14, x15, x16, x17, x18, x19] [] h P := by
  obtain ⟨c0_z, hb0, g0, m1_z, m2_z⟩ := tw
  refine tL_law_15  (r := ?_)
  refine tL_law_18  (r := ?_)
  refine tL_law_19  (r := ?_)
  refine tL_law_20  (r := ?_)
  refine tL_law_21 (hd := (by omega)) (call := s_cell (d := d - 1) (k := t) hg (by omega)) (k := ?_)
  rintro v_ h_ e9_z
  rw [e9_z]
  clear e9_z h_
  refine tL_law_24  (r := ?_)
  refine tL_law_25  (r := ?_)
  refine tL_law_26  (r := ?_)
  refine tL_law_27  (r := ?_)
  rw [nI_add]
  refine tL_law_28 (hd := (by omega)) (call := s_cell (d := d - 1) (k := t + 3) hg (by omega)) (k := ?_)
  rintro v_ h_ e9_z
  rw [e9_z]
  clear e9_z h_
  refine tL_law_31  (r := ?_)
  refine tL_law_33  (r := ?_)
  refine tL_law_34  (r := ?_)
  refine tL_law_35  (r := ?_)
  refine tL_law_36  (r := ?_)
  refine tL_law_37  (r := ?_)
  refine tL_law_39  (r := ?_)
  rw [nI_add]
  refine tL_law_40 (hd := (by omega)) (call := s_cell (d := d - 1) (k := t + 6) hg (by omega)) (k := ?_)
  rintro v_ h_ e9_z
  rw [e9_z]
  clear e9_z h_
  refine tL_law_43  (r := ?_)
  refine tL_law_46  (r := ?_)
  refine tL_law_47  (r := ?_)
  refine tL_law_48 (hd := (by omega)) (call := s_diInit (d := d - 1) (by omega) (At.new_eq h 1 _)) (k := ?_)
  rintro h2 e2_z
  obtain ⟨xd, ed⟩ : ∃ xd, At h2 h.1 (.inr (11, [.int xd])) := ⟨_, by rw [e2_z]; exact At.set_eq2 (At.new_eq h 1 _).1⟩
  have n2_z : Ch h h2 0 0 1 1 := by rw [e2_z]; exact (Ch0.new h 1 _).set9 (Nat.le_refl _) (Nat.zero_le _)
  clear e2_z
  refine tL_law_51  (r := ?_)
  refine tL_law_52  (r := ?_)
  refine tL_law_55  (r := ?_)
  refine tL_law_56 (hd := (by omega)) (call := s_bInit (h0 := h2) (d := d - 1) (by omega)) (k := ?_)
  rintro h3 q3_z
  have dw : Dw h h3 h.1 h2.1 [] (1 + 2) (1 + 20) := ⟨q3_z.base n2_z, ⟨xd, Ch0.at q3_z.c ed⟩, Nat.le_refl _, g0⟩
  refine tL_law_59  (r := ?_)
  refine tL_law_61  (r := ?_)
  refine tL_law_62  (r := ?_)
  refine tL_law_64 (hd := (by omega)) (call := s_drawn (d := d - 1) (by omega) dw) (k := ?_)
  rintro c_z h4 ⟨la, e_z, js, ls, okb, la0, r2, har, dw4⟩
  have c4_z := dw4.1.c
  obtain ⟨vb, sv, bg1, bg2, -⟩ := id dw4.1
  have tb_z := sv.2.2
  have tl := (bk_len okb).2
  obtain ⟨xe, de⟩ := dw4.2.1
  refine tL_law_67  (r := ?_)
  refine tL_law_69  (r := ?_)
  refine tL_law_70  (r := ?_)
  refine tL_law_72 (hd := (by omega)) (ha := dw4.at.choose_spec) (call := s_toStr (d := d - 1) (by omega) sv) (k := ?_)
  rintro k h5 ⟨ek, sn, c5_z⟩
  have cl5 := (c0_z.keep c4_z.1 (fun i_z _ i2_z => c4_z.2.2.2.2 i_z (Nat.zero_le _) (by omega)))
  have cl5 := cl5.keep c5_z.1 (fun i_z _ i2_z => c5_z.2.2.2.2 i_z (Nat.zero_le _) (by have := c4_z.1; omega))
  have g4 : 216 ≤ h4.1 := Nat.le_trans g0 c4_z.1
  have g5_z : 216 ≤ h5.1 := Nat.le_trans g4 c5_z.1
  rw [ek]
  refine tL_law_75 (hd := (by omega)) (call := s_taught (d := d - 1) (by omega) hb0 okb rfl tb_z cl5 sn g4 (by omega) g5_z) (k := ?_)
  rintro v_ h6 ⟨ev_z, dd, ds, bd, cl6, c6_z⟩
  rw [ev_z]
  have fx := ds.fx okb la0 r2
  have ha4 := har _ _ ds.mt
  have ha6 := (ha4.k6 (Ch.k60 c5_z)).k6 c6_z.k6
  have de6 := c6_z.k6.at g0 (Ch0.at c5_z de)
  have l6 := bd.1
  have l8 := bd.2.1
  refine tL_law_78  (kf := fun c_ => by exfalso; exact c_ (by decide)) (kt := fun _ => ?_)
  refine tL_law_83  (r := ?_)
  refine tL_law_84 (hd := (by omega)) (ha := cl6.1) (call := ckd (V := nI (bLa dd.1)) (k_labels (d := d - 1) (s := ([], -1, dd.1, dyN dd)) cl6 bd)) (k := ?_)
  rintro v_ h7 ⟨ev_z, cl7, c7_z⟩
  rw [ev_z]
  refine tL_law_87  (r := ?_)
  refine tL_law_89  (r := ?_)
  refine tL_law_90 (hd := (by omega)) (ha := cl7.1) (call := ckd (V := nI (bJa dd.1)) (k_jars (d := d - 1) (s := ([], -1, dd.1, dyN dd)) cl7 bd)) (k := ?_)
  rintro v_ h8 ⟨ev_z, cl8, c8_z⟩
  rw [ev_z]
  have ha8 := (ha6.k6 c7_z.k6).k6 c8_z.k6
  have de8 := c8_z.k6.at g0 (c7_z.k6.at g0 de6)
  have g8 : 216 ≤ h8.1 := Nat.le_trans g5_z (Nat.le_trans c6_z.1 (Nat.le_trans c7_z.1 c8_z.1))
  obtain ⟨fo, ja, li, xj, yl, rl, jf_z, lf_z, hx⟩ := ha8.x h8.1 (Or.inr (Nat.le_refl _))
  refine tL_law_93 (hx := rfl) (hn := (by omega)) (r := ?_)
  have w_z : WL h (hnew h8 (bJa dd.1) (.inl (0, bJa dd.1, .inl (fun _ => 0)))) dr bk c_z h.1 h8.1 (rsA ls) dd.1 (fun _ => 0) (dyN dd) (dyN dd) 6011 801300 := by
    have k9 : Ch h8 (hnew h8 (bJa dd.1) (.inl (0, bJa dd.1, .inl (fun _ => 0)))) 0 0 1 (bJa dd.1) := Ch0.new h8 _ _
    obtain ⟨p41, p42_z, p43_z, -⟩ := c4_z
    obtain ⟨p51_z, p52, p53, -⟩ := c5_z
    obtain ⟨p61, p62_z, p63, -⟩ := c6_z
    obtain ⟨p71, p72, p73_z, -⟩ := c7_z
    obtain ⟨p81, p82, p83, -⟩ := c8_z
    refine ⟨cl8.keep k9.1 (fun i_z _ i2_z => k9.2.2.2.2 i_z (Nat.zero_le _) (by omega)), ⟨fo, ja, li, xj, yl, rl, jf_z, lf_z, hx.k6 (Ch.k60 k9)⟩, ⟨xe, Ch0.at k9 de8⟩, At.new_eq h8 _ _, ⟨?_, ?_, ?_⟩, g0, g0, g8⟩
    · show h.1 ≤ h8.1 + 1
      omega
    · show h8.1 + 1 ≤ h.1 + 6011
      omega
    · show h8.2.1 + bJa dd.1 ≤ h.2.1 + 801300
      omega
  refine tL_law_95  (r := ?_)
  refine tL_law_97  (r := ?_)
  refine tL_law_98  (r := ?_)
  refine s_turn (by omega) bd (fun u1_z tg x9 x10 x11 x12 x13 x14 x15 x16 x17 x18 x19 w_z ht => ?_) (bJa dd.1) 0 _ _ _ _ _ _ _ _ _ _ _ _ _ (by omega) (Nat.zero_le _) w_z (fun q_z hq => absurd hq (Nat.not_lt_zero q_z))
  refine tL_law_125  (r := ?_)
  refine tL_law_126  (r := ?_)
  refine s_steps (ck := 6011) (sk := 801300) (by omega) fx ht (fun u2_z D7 x9 x10 x11 x12 x13 x14 x15 x16 x17 x18 x19 w_z hb7 sm7 => ?_) 6 0 u1_z _ _ _ _ _ _ _ _ _ _ _ _ (by decide) (by decide) w_z bd (SmD.rf _ _)
  obtain ⟨-, ⟨fo7, ja7, li7, xj7, yl7, rl7, jf7, lf7, ha7⟩, -⟩ := id w_z
  refine tL_law_1081  (r := ?_)
  refine tL_law_1083  (r := ?_)
  refine tL_law_1084 (hd := (by omega)) (ha := ha7.choose_spec.choose_spec.2.1) (call := s_same (d := d - 1) (by omega) hb7 ha7 w_z.1 w_z.g) (k := ?_)
  rintro v_ u9 ⟨ev_z, q9_z, x9a, -⟩
  rw [ev_z]
  obtain ⟨y1, y2, y3, -⟩ := x9a
  obtain ⟨z1, z2, z3⟩ := w_z.2.2.2.2.1
  refine tL_law_1087  (kf := fun c_ => by exfalso; exact absurd c_ (by decide)) (kt := fun _ => ?_)
  have tm : TmW u9 dr bk (t + 1) dd.1 D7 := by
    refine ⟨q9_z, hb7, ?_, ?_, ?_⟩
    · omega
    · omega
    · omega
  exact r u9 dr bk dd.1 D7 _ _ _ _ _ _ _ _ _ _ _ _ _ _ _ _ _ tm
set_option maxHeartbeats 4000000 in
theorem s_law (hd : 300 ≤ d) (hg : gN G < 2147483000) : RQ G mL_law d 0 [some (.ref (OLD + 999)), none, none, none, none, none, none, none, none, none, none, none, none, none, none, none, none, none, none, none] [] (0, 0, fun _ => .inr (0, [])) (fun o h1 => o = .inl (some (.int (nI 1))) ∧ h1.1 ≤ 392216 ∧ h1.2.1 ≤ 4207000) := by
  refine tL_law_0  (r := ?_)
  refine tL_law_3  (r := ?_)
  refine tL_law_4 (hd := (by omega)) (call := s_Poll_init (d := d - 1) (by omega) (At.new_eq _ 7 _) rfl) (k := ?_)
  rintro h2 ⟨po, g1, g2, -⟩
  have w_z : TmW h2 158 8 0 B0 D0 := ⟨PolE.R po, BDok0, by rw [g1]; decide, by rw [g1]; decide, by rw [g2]; decide⟩
  refine tL_law_7  (r := ?_)
  refine tL_law_8  (r := ?_)
  refine tL_law_9  (r := ?_)
  refine tL_law_10  (r := ?_)
  refine tL_law_11  (r := ?_)
  refine tL_law_12  (kt := fun c_ => by exfalso; exact absurd c_ (by decide)) (kf := fun _ => ?_)
  refine s_time (t := 0) (by omega) hg (by decide) w_z (fun w0 bk dr B_z D_z x3 x4_z x5_z x6 x7 x8 x9 x10 x11 x12 x13 x14 x15 x16 x17 x18 x19 w_z => ?_)
  refine tL_law_1092  (r := ?_)
  rw [nI_add]
  refine tL_law_1095 (r := ?_)
  refine tL_law_10  (r := ?_)
  refine tL_law_11  (r := ?_)
  refine tL_law_12  (kt := fun c_ => by exfalso; exact absurd c_ (by decide)) (kf := fun _ => ?_)
  refine s_time (t := 1) (by omega) hg (by decide) w_z (fun w1_z bk dr B_z D_z x3 x4_z x5_z x6 x7 x8 x9 x10 x11 x12 x13 x14 x15 x16 x17 x18 x19 w_z => ?_)
  refine tL_law_1092  (r := ?_)
  rw [nI_add]
  refine tL_law_1095 (r := ?_)
  refine tL_law_10  (r := ?_)
  refine tL_law_11  (r := ?_)
  refine tL_law_12  (kf := fun c_ => by exfalso; exact c_ (by decide)) (kt := fun _ => ?_)
  refine tL_law_1098  (r := ?_)
  refine tL_law_1099 (hb := (by first | exact Or.inl rfl | exact Or.inr rfl | assumption)) (hP := ?_)
  exact ⟨rfl, w_z.2.2.2.1, w_z.2.2.2.2⟩
end G0
