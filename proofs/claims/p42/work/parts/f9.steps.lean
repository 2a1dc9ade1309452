/-! acts, steps, turnouts -/
section F9
variable {G : GT} {d c di tn bk dr ck sk : Nat} {h0 h h1 : AH} {B : BK} {D D2 : DY} {Rs : Nat → List ERu} {tf : Nat → Int32}
theorem WL.put {tf2 : Nat → Int32} (w_z : WL h0 h bk dr c di tn Rs B tf D D2 ck sk) : WL h0 (hset h tn (.inl (0, bJa B, .inl tf2))) bk dr c di tn Rs B tf2 D D2 ck sk := by
  have g_z := w_z.g
  obtain ⟨q1_z, ⟨fo, ja, li, xj, yl, rl, jf_z, lf_z, ha⟩, ⟨dv, da_z⟩, q4_z, ⟨g1, g2, g3_z⟩, g4, g5_z, g6⟩ := w_z
  obtain ⟨nly, nxy, nct⟩ := ha.nx q4_z
  obtain ⟨bj, ff_z, a1_z, a5, ⟨a6, a7⟩, ⟨a8, a9⟩, ⟨a10, a11⟩, a12, a13, a14, a15, a16, a17, a18⟩ := ha
  have n5_z : ∀ {k : Nat} {v : vp_A}, k ≠ 0 → (.inl (k, v) : AC) ≠ .inl (0, bJa B, .inl tf) := fun hk e_z => by
    injection e_z with e_z
    injection e_z with e_z _
    exact hk e_z
  refine ⟨q1_z.keep (Nat.le_refl _) (fun i_z _ i2_z => if_neg (by omega)), ⟨fo, ja, li, xj, yl, rl, jf_z, lf_z, bj, ff_z, a1_z, At.set_ne a5 nct, ⟨At.set_ne a6 a17, a7⟩, ⟨At.set_ne a8 (a8.ne q4_z (n5_z (by decide))), a9⟩, ⟨At.set_ne a10 (a10.ne q4_z (n5_z (by decide))), a11⟩, fun j_z hj => (a12 j_z hj).set0 (nxy j_z hj) (a18 j_z hj), fun i_z hi_z => (a13 i_z hi_z).set0 q4_z nmt0 (nly i_z hi_z), a14, a15, a16, a17, a18⟩, ⟨dv, At.set_ne da_z (da_z.ne q4_z (fun e_z => by cases e_z))⟩, At.set_eq2 q4_z.1, ⟨g1, g2, g3_z⟩, g4, g5_z, g6⟩

set_option maxHeartbeats 4000000 in
theorem s_acts (hd : 40 ≤ d) (fx : Fx B Rs) {x2 x4 x8 : Option Value} (o8 : ok1 x8 = true) {P : OC → AH → Prop} (r : ∀ (h1 : AH) (D1 : DY) (x10 x11 x12 x13 x14 x15 x16 x17 x18 x19 : Option Value), WL h0 h1 bk dr c di tn Rs B tf D1 D1 (ck + 24330) (sk + 162030) → BDok B D1 → SmD B D D1 → RQ G mL_law d 162 [some (.ref (OLD + 999)), some (.ref 0), x2, some (.ref di), x4, some (.ref c), some (.int (nI (bLa B))), some (.ref tn), x8, some (.int (nI (3))), x10, x11, x12, x13, x14, x15, x16, x17, x18, x19] [] h1 P) : ∀ (nn i_z : Nat) (h9 : AH) (D1 : DY) (x10 x11 x12 x13 x14 x15 x16 x17 x18 x19 : Option Value), 3 ≤ i_z + nn → i_z ≤ 3 → WL h0 h9 bk dr c di tn Rs B tf D1 D1 (ck + 8110 * i_z) (sk + 54010 * i_z) → BDok B D1 → SmD B D D1 → RQ G mL_law d 138 [some (.ref (OLD + 999)), some (.ref 0), x2, some (.ref di), x4, some (.ref c), some (.int (nI (bLa B))), some (.ref tn), x8, some (.int (nI (i_z))), x10, x11, x12, x13, x14, x15, x16, x17, x18, x19] [] h9 P := by
  have ex_z : ∀ (i_z : Nat) (h9 : AH) (D1 : DY) (x10 x11 x12 x13 x14 x15 x16 x17 x18 x19 : Option Value), i_z = 3 → WL h0 h9 bk dr c di tn Rs B tf D1 D1 (ck + 8110 * i_z) (sk + 54010 * i_z) → BDok B D1 → SmD B D D1 → RQ G mL_law d 138 [some (.ref (OLD + 999)), some (.ref 0), x2, some (.ref di), x4, some (.ref c), some (.int (nI (bLa B))), some (.ref tn), x8, some (.int (nI (i_z))), x10, x11, x12, x13, x14, x15, x16, x17, x18, x19] [] h9 P := by
    intro i_z h9 D1 x10 x11 x12 x13 x14 x15 x16 x17 x18 x19 hi_z w_z hb_z sm_z
    subst hi_z
    refine tL_law_138  (r := ?_)
    refine tL_law_140  (r := ?_)
    refine tL_law_141  (kf := fun c_ => by exfalso; exact c_ (by decide)) (kt := fun _ => ?_)
    exact r h9 D1 _ _ _ _ _ _ _ _ _ _ w_z hb_z sm_z
  intro nn
  induction nn with
  | zero => exact fun i_z h9 D1 x10 x11 x12 x13 x14 x15 x16 x17 x18 x19 h1_ h2_ => ex_z i_z h9 D1 x10 x11 x12 x13 x14 x15 x16 x17 x18 x19 (by omega)
  | succ nn ih =>
    intro i_z h9 D1 x10 x11 x12 x13 x14 x15 x16 x17 x18 x19 h1_ h2_ w_z hb_z sm_z
    by_cases hi_z : i_z = 3
    · exact ex_z i_z h9 D1 x10 x11 x12 x13 x14 x15 x16 x17 x18 x19 hi_z w_z hb_z sm_z
    have hi2 : i_z < 3 := by omega
    refine tL_law_138  (r := ?_)
    refine tL_law_140  (r := ?_)
    refine tL_law_141  (kt := fun c_ => by exfalso; exact absurd ((nI_leI (by decide) (by omega)).mp c_) (by omega)) (kf := fun _ => ?_)
    refine tL_law_144  (r := ?_)
    refine tL_law_145  (r := ?_)
    refine tL_law_147  (r := ?_)
    refine tL_law_148 (hd := (by omega)) (call := s_lact (d := d - 1) (by omega) hb_z fx w_z) (k := ?_)
    rintro v_ u1_z ⟨ev_z, D8, w_z, hb8, sm8⟩
    rw [ev_z]
    refine tL_law_151  (kf := fun c_ => by exfalso; exact absurd c_ (by decide)) (kt := fun _ => ?_)
    refine tL_law_156 (ho := o8) (r := ?_)
    rw [nI_add]
    refine tL_law_159 (r := ?_)
    exact ih (i_z + 1) u1_z D8 _ _ _ _ _ _ _ _ _ _ (by omega) (by omega) (w_z.sub (by omega) (by omega)) hb8 (sm_z.trans sm8)
set_option maxHeartbeats 4000000 in
theorem s_step (hd : 40 ≤ d) (hb_z : BDok B D) (fx : Fx B Rs) (ht : (∀ q_z, q_z < bJa B → tf q_z = nI (su (dB D q_z) 6))) {x2 x4 x8 x9 x10 x11 x12 x13 x14 x15 x16 x17 x18 x19 : Option Value} (o8 : ok1 x8 = true) {P : OC → AH → Prop} (w_z : WL h0 h bk dr c di tn Rs B tf D D ck sk) (r : ∀ (h1 : AH) (D1 : DY) (x9 x10 x11 x12 x13 x14 x15 x16 x17 x18 x19 : Option Value), WL h0 h1 bk dr c di tn Rs B tf D1 D1 (ck + 31538) (sk + 210078) → BDok B D1 → SmD B D D1 → RQ G mL_law d 1075 [some (.ref (OLD + 999)), some (.ref 0), x2, some (.ref di), x4, some (.ref c), some (.int (nI (bLa B))), some (.ref tn), x8, x9, x10, x11, x12, x13, x14, x15, x16, x17, x18, x19] [] h1 P) : RQ G mL_law d 135 [some (.ref (OLD + 999)), some (.ref 0), x2, some (.ref di), x4, some (.ref c), some (.int (nI (bLa B))), some (.ref tn), x8, x9, x10, x11, x12, x13, x14, x15, x16, x17, x18, x19] [] h P := by
  have l6 := hb_z.1
  have l8 := hb_z.2.1
  refine tL_law_135  (r := ?_)
  refine tL_law_136 (ho := o8) (r := ?_)
  refine s_acts hd fx o8 (fun u1_z D8 x10 x11 x12 x13 x14 x15 x16 x17 x18 x19 w_z hb8 sm8 => ?_) 3 0 h D _ _ _ _ _ _ _ _ _ _ (by decide) (by decide) w_z hb_z (SmD.rf B D)
  refine tL_law_162  (r := ?_)
  refine tL_law_163 (hd := (by omega)) (ha := w_z.1.1) (call := w_z.kj (V := dgA ([], -1, B, D8)) (k_digest (d := d - 1) (by omega) w_z.1 hb8 w_z.g)) (k := ?_)
  rintro v_ u2_z ⟨ev_z, w_z⟩
  rw [ev_z]
  refine tL_law_166 (ho := o8) (r := ?_)
  refine tL_law_168  (r := ?_)
  refine tL_law_169  (r := ?_)
  refine tL_law_171  (r := ?_)
  refine tL_law_172  (r := ?_)
  refine tL_law_174  (r := ?_)
  refine tL_law_175  (r := ?_)
  refine s_jars (ck := ck + 24330) (sk := sk + 162030) hd hb8 fx.la (fun q_z hq => (ht q_z hq).trans (by rw [sm8 q_z hq])) rfl (fun u3 x14 x15 x16 x17 x18 x19 w_z => ?_) (bJa B) 0 u2_z _ _ _ _ _ _ (by omega) (Nat.zero_le _) (w_z.sub (by omega) (by omega))
  refine tL_law_745  (r := ?_)
  refine tL_law_746  (r := ?_)
  refine s_labs hd hb8 fx.la (fun u4_z x14 x15 x16 x17 x18 x19 w_z => ?_) (bLa B) 0 u3 _ _ _ _ _ _ (by omega) (Nat.zero_le _) w_z
  refine s_rest hd hb8 fx w_z (fun u5 D7 x11 x12 x13 x14 x15 x16 x17 x18 x19 w_z hb7 sm7 => ?_)
  exact r u5 D7 _ _ _ _ _ _ _ _ _ _ _ (w_z.sub (by omega) (by omega)) hb7 (sm8.trans sm7)
set_option maxHeartbeats 4000000 in
theorem s_steps (hd : 40 ≤ d) (fx : Fx B Rs) (ht : (∀ q_z, q_z < bJa B → tf q_z = nI (su (dB D q_z) 6))) {x2 x4 : Option Value} {P : OC → AH → Prop} (r : ∀ (h1 : AH) (D1 : DY) (x9 x10 x11 x12 x13 x14 x15 x16 x17 x18 x19 : Option Value), WL h0 h1 bk dr c di tn Rs B tf D1 D1 (ck + 189228) (sk + 1260468) → BDok B D1 → SmD B D D1 → RQ G mL_law d 1081 [some (.ref (OLD + 999)), some (.ref 0), x2, some (.ref di), x4, some (.ref c), some (.int (nI (bLa B))), some (.ref tn), some (.int (nI (6))), x9, x10, x11, x12, x13, x14, x15, x16, x17, x18, x19] [] h1 P) : ∀ (nn i_z : Nat) (h9 : AH) (D1 : DY) (x9 x10 x11 x12 x13 x14 x15 x16 x17 x18 x19 : Option Value), 6 ≤ i_z + nn → i_z ≤ 6 → WL h0 h9 bk dr c di tn Rs B tf D1 D1 (ck + 31538 * i_z) (sk + 210078 * i_z) → BDok B D1 → SmD B D D1 → RQ G mL_law d 128 [some (.ref (OLD + 999)), some (.ref 0), x2, some (.ref di), x4, some (.ref c), some (.int (nI (bLa B))), some (.ref tn), some (.int (nI (i_z))), x9, x10, x11, x12, x13, x14, x15, x16, x17, x18, x19] [] h9 P := by
  have ex_z : ∀ (i_z : Nat) (h9 : AH) (D1 : DY) (x9 x10 x11 x12 x13 x14 x15 x16 x17 x18 x19 : Option Value), i_z = 6 → WL h0 h9 bk dr c di tn Rs B tf D1 D1 (ck + 31538 * i_z) (sk + 210078 * i_z) → BDok B D1 → SmD B D D1 → RQ G mL_law d 128 [some (.ref (OLD + 999)), some (.ref 0), x2, some (.ref di), x4, some (.ref c), some (.int (nI (bLa B))), some (.ref tn), some (.int (nI (i_z))), x9, x10, x11, x12, x13, x14, x15, x16, x17, x18, x19] [] h9 P := by
    intro i_z h9 D1 x9 x10 x11 x12 x13 x14 x15 x16 x17 x18 x19 hi_z w_z hb_z sm_z
    subst hi_z
    refine tL_law_128  (r := ?_)
    refine tL_law_130  (r := ?_)
    refine tL_law_132  (kf := fun c_ => by exfalso; exact c_ (by decide)) (kt := fun _ => ?_)
    exact r h9 D1 _ _ _ _ _ _ _ _ _ _ _ w_z hb_z sm_z
  intro nn
  induction nn with
  | zero => exact fun i_z h9 D1 x9 x10 x11 x12 x13 x14 x15 x16 x17 x18 x19 h1_ h2_ => ex_z i_z h9 D1 x9 x10 x11 x12 x13 x14 x15 x16 x17 x18 x19 (by omega)
  | succ nn ih =>
    intro i_z h9 D1 x9 x10 x11 x12 x13 x14 x15 x16 x17 x18 x19 h1_ h2_ w_z hb_z sm_z
    by_cases hi_z : i_z = 6
    · exact ex_z i_z h9 D1 x9 x10 x11 x12 x13 x14 x15 x16 x17 x18 x19 hi_z w_z hb_z sm_z
    have hi2 : i_z < 6 := by omega
    refine tL_law_128  (r := ?_)
    refine tL_law_130  (r := ?_)
    refine tL_law_132  (kt := fun c_ => by exfalso; exact absurd ((nI_leI (by decide) (by omega)).mp c_) (by omega)) (kf := fun _ => ?_)
    refine s_step hd hb_z fx (fun q_z hq => (ht q_z hq).trans (by rw [sm_z q_z hq])) rfl w_z (fun u1_z D8 x9 x10 x11 x12 x13 x14 x15 x16 x17 x18 x19 w_z hb8 sm8 => ?_)
    refine tL_law_1075  (r := ?_)
    rw [nI_add]
    refine tL_law_1078 (r := ?_)
    exact ih (i_z + 1) u1_z D8 _ _ _ _ _ _ _ _ _ _ _ (by omega) (by omega) (w_z.sub (by omega) (by omega)) hb8 (sm_z.trans sm8)
set_option maxHeartbeats 4000000 in
theorem s_turn (hd : 40 ≤ d) (hb_z : BDok B D) {x2 x4 : Option Value} {P : OC → AH → Prop} (r : ∀ (h1 : AH) (tg : Nat → Int32) (x9 x10 x11 x12 x13 x14 x15 x16 x17 x18 x19 : Option Value), WL h0 h1 bk dr c di tn Rs B tg D D ck sk → (∀ q_z, q_z < bJa B → tg q_z = nI (su (dB D q_z) 6)) → RQ G mL_law d 125 [some (.ref (OLD + 999)), some (.ref 0), x2, some (.ref di), x4, some (.ref c), some (.int (nI (bLa B))), some (.ref tn), some (.int (nI (bJa B))), x9, x10, x11, x12, x13, x14, x15, x16, x17, x18, x19] [] h1 P) : ∀ (nn i_z : Nat) (h9 : AH) (tg : Nat → Int32) (x9 x10 x11 x12 x13 x14 x15 x16 x17 x18 x19 : Option Value), bJa B ≤ i_z + nn → i_z ≤ bJa B → WL h0 h9 bk dr c di tn Rs B tg D D ck sk → (∀ q_z, q_z < i_z → tg q_z = nI (su (dB D q_z) 6)) → RQ G mL_law d 100 [some (.ref (OLD + 999)), some (.ref 0), x2, some (.ref di), x4, some (.ref c), some (.int (nI (bLa B))), some (.ref tn), some (.int (nI (i_z))), x9, x10, x11, x12, x13, x14, x15, x16, x17, x18, x19] [] h9 P := by
  have ex_z : ∀ (i_z : Nat) (h9 : AH) (tg : Nat → Int32) (x9 x10 x11 x12 x13 x14 x15 x16 x17 x18 x19 : Option Value), i_z = bJa B → WL h0 h9 bk dr c di tn Rs B tg D D ck sk → (∀ q_z, q_z < i_z → tg q_z = nI (su (dB D q_z) 6)) → RQ G mL_law d 100 [some (.ref (OLD + 999)), some (.ref 0), x2, some (.ref di), x4, some (.ref c), some (.int (nI (bLa B))), some (.ref tn), some (.int (nI (i_z))), x9, x10, x11, x12, x13, x14, x15, x16, x17, x18, x19] [] h9 P := by
    intro i_z h9 tg x9 x10 x11 x12 x13 x14 x15 x16 x17 x18 x19 hi_z w_z ht
    subst hi_z
    have l6 := hb_z.1
    have l8 := hb_z.2.1
    refine tL_law_100  (r := ?_)
    refine tL_law_102  (r := ?_)
    refine tL_law_104 (ha := w_z.2.2.2.1) (ht := rfl) (r := ?_)
    refine tL_law_105  (kf := fun c_ => by exfalso; (simp (disch := first | omega | decide) only [ci_lt, ci_le, ci_eq, ci_lt0, ci_ge0, ci_gt0, ci_le0, ci_eq0, ci_m1_lt, ci_m1_le, ci_lt_m1, ci_le_m1, ci_eq_m1, ci_m1_eq, not_true, not_false_iff, Nat.not_lt, Nat.not_le] at c_ <;> omega)) (kt := fun _ => ?_)
    exact r h9 tg _ _ _ _ _ _ _ _ _ _ _ w_z ht
  intro nn
  induction nn with
  | zero => exact fun i_z h9 tg x9 x10 x11 x12 x13 x14 x15 x16 x17 x18 x19 h1_ h2_ => ex_z i_z h9 tg x9 x10 x11 x12 x13 x14 x15 x16 x17 x18 x19 (by omega)
  | succ nn ih =>
    intro i_z h9 tg x9 x10 x11 x12 x13 x14 x15 x16 x17 x18 x19 h1_ h2_ w_z ht
    by_cases hi_z : i_z = bJa B
    · exact ex_z i_z h9 tg x9 x10 x11 x12 x13 x14 x15 x16 x17 x18 x19 hi_z w_z ht
    have hi2 : i_z < bJa B := by omega
    have l6 := hb_z.1
    have l8 := hb_z.2.1
    refine tL_law_100  (r := ?_)
    refine tL_law_102  (r := ?_)
    refine tL_law_104 (ha := w_z.2.2.2.1) (ht := rfl) (r := ?_)
    refine tL_law_105  (kt := fun c_ => by exfalso; (simp (disch := first | omega | decide) only [ci_lt, ci_le, ci_eq, ci_lt0, ci_ge0, ci_gt0, ci_le0, ci_eq0, ci_m1_lt, ci_m1_le, ci_lt_m1, ci_le_m1, ci_eq_m1, ci_m1_eq, not_true, not_false_iff, Nat.not_lt, Nat.not_le] at c_ <;> omega)) (kf := fun _ => ?_)
    refine tL_law_108  (r := ?_)
    refine tL_law_110  (r := ?_)
    refine tL_law_112  (r := ?_)
    refine tL_law_113  (r := ?_)
    refine tL_law_115 (hd := (by omega)) (ha := w_z.1.1) (call := w_z.k (V := nI (su (dB D i_z) 6)) (k_turnout_ok (d := d - 1) (by omega) w_z.1 hb_z w_z.g hi2)) (k := ?_)
    rintro v_ u1_z ⟨ev_z, w_z⟩
    rw [ev_z]
    refine tL_law_118 (ha := w_z.2.2.2.1) (hx := rfl) (hj := hi2) (hn := (by omega)) (r := ?_)
    have w_z := w_z.put (tf2 := upd tg i_z (nI (su (dB D i_z) 6)))
    refine tL_law_119  (r := ?_)
    rw [nI_add]
    refine tL_law_122 (r := ?_)
    refine ih (i_z + 1) _ _ _ _ _ _ _ _ _ _ _ _ _ (by omega) (by omega) w_z (fun q_z hq => ?_)
    show (if q_z = i_z then nI (su (dB D i_z) 6) else tg q_z) = _
    by_cases z_z : q_z = i_z
    · rw [if_pos z_z, z_z]
    · rw [if_neg z_z]
      exact ht q_z (by omega)
end F9
