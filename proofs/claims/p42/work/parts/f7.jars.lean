/-! the law looks at all jars -/
section F7
variable {G : GT} {d c di tn bk dr ck sk : Nat} {h0 h h1 : AH} {B : BK} {D D2 : DY} {Rs : Nat → List ERu} {tf : Nat → Int32}

set_option maxHeartbeats 4000000 in
theorem s_jar (hd : 40 ≤ d) (hb : BDok B D) {j : Nat} (hj : j < bJa B) {fi : Option Nat} (efi : fiN (po (rt (dF D)) (dB D j)) 6 = fi) (l0 : 0 < bLa B) (htf : tf j = nI (su (dB D j) 6)) {a0 : Nat} {x2 x4 x8 x9 x10 x12 x14 x15 x16 x17 x18 x19 : Option Value} (o10 : ok1 x10 = true) {P : OC → AH → Prop} (w_z : WL h0 h bk dr c di tn Rs B tf D D ck sk) (r : ∀ (h1 : AH) (x17 x18 x19 : Option Value), WL h0 h1 bk dr c di tn Rs B tf D D (ck + 1) (sk + 6) → RQ G mL_law d 739 [some (.ref (OLD + 999)), some (.ref 0), x2, some (.ref di), x4, some (.ref c), some (.int (nI (bLa B))), some (.ref tn), x8, x9, x10, some (.int (nI (a0 + bSe B j))), x12, some (.int (nI (j))), some (.int (oI fi)), some (.int (nI ((emp (po (rt (dF D)) (dB D j)) (su (dB D j) 6) (bSe B j) (bWy B j)) + su (wl (rt (dF D)) (po (rt (dF D)) (dB D j)) (su (dB D j) 6) (bSe B j) (bWy B j)) (bLa B)))), some (.int (nI (su (dB D j) (bLa B)))), x17, x18, x19] [] h1 P) : RQ G mL_law d 185 [some (.ref (OLD + 999)), some (.ref 0), x2, some (.ref di), x4, some (.ref c), some (.int (nI (bLa B))), some (.ref tn), x8, x9, x10, some (.int (nI (a0))), x12, some (.int (nI (j))), x14, x15, x16, x17, x18, x19] [] h P := by
  have l6 := hb.1
  have l8 := hb.2.1
  have bs9 := hb.bs9 hj
  have se9 := hb.s9 hj
  have ps_z := hb.ps j
  have lp : ∀ k, (po (rt (dF D)) (dB D j)) k ≤ 1200 := fun k => po_le bs9 k
  have rr : ∀ k, k < 6 → rt (dF D) (rt (dF D) k) = rt (dF D) k := fun k hk => rt_id hb hk
  have pz : ∀ k, bLa B ≤ k → k < 6 → (po (rt (dF D)) (dB D j)) k = 0 := fun k k1_z k2_z => po_z hb (j0 := j) (by omega) k k1_z k2_z
  have ew : (emp (po (rt (dF D)) (dB D j)) (su (dB D j) 6) (bSe B j) (bWy B j)) + su (wl (rt (dF D)) (po (rt (dF D)) (dB D j)) (su (dB D j) 6) (bSe B j) (bWy B j)) (bLa B) = bSe B j := by
    rw [wo_lead l6 pz (fun k hk nk => po_no rr nk)]
    have := wo_sum (se := bSe B j) ps_z se9.2
    omega
  refine tL_law_185  (r := ?_)
  refine tL_law_186  (r := ?_)
  refine tL_law_188 (hd := (by omega)) (ha := w_z.1.1) (call := w_z.k (V := oI (fiN (po (rt (dF D)) (dB D j)) 6)) (k_firstIn_ok (d := d - 1) (by omega) w_z.1 hb w_z.g hj)) (k := ?_)
  rintro v_ v0_z ⟨ev_z, w_z⟩
  rw [ev_z, efi]
  refine tL_law_191  (r := ?_)
  refine tL_law_193  (r := ?_)
  refine tL_law_194  (r := ?_)
  refine tL_law_196 (hd := (by omega)) (ha := w_z.1.1) (call := w_z.k (V := nI (emp (po (rt (dF D)) (dB D j)) (su (dB D j) 6) (bSe B j) (bWy B j))) (k_emptySeats_ok (d := d - 1) (by omega) w_z.1 hb w_z.g hj)) (k := ?_)
  rintro v_ v1_z ⟨ev_z, w_z⟩
  rw [ev_z]
  refine tL_law_199  (r := ?_)
  refine tL_law_201  (r := ?_)
  refine tL_law_202  (r := ?_)
  refine tL_law_204  (r := ?_)
  refine tL_law_206  (r := ?_)
  refine tL_law_207  (r := ?_)
  refine tL_law_209 (hd := (by omega)) (ha := w_z.1.1) (call := w_z.k (V := nI (bSe B j)) (k_seatsOf_ok (d := d - 1) (by omega) w_z.1 hb w_z.g hj)) (k := ?_)
  rintro v_ v2 ⟨ev_z, w_z⟩
  rw [ev_z]
  refine tL_law_212  (r := ?_)
  rw [nI_add]
  refine tL_law_213 (ho := o10) (r := ?_)
  refine tL_law_215  (r := ?_)
  refine tL_law_216  (r := ?_)
  refine tL_law_218 (hd := (by omega)) (ha := w_z.1.1) (call := w_z.k (V := nI (su (dB D j) 6)) (k_turnout_ok (d := d - 1) (by omega) w_z.1 hb w_z.g hj)) (k := ?_)
  rintro v_ v3 ⟨ev_z, w_z⟩
  rw [ev_z]
  refine tL_law_221  (r := ?_)
  refine tL_law_223  (r := ?_)
  refine tL_law_225 (ha := w_z.2.2.2.1) (hx := rfl) (hj := hj) (hn := (by omega)) (r := ?_)
  rw [htf]
  refine tL_law_226  (kt := fun c_ => by exfalso; exact c_ rfl) (kf := fun _ => ?_)
  have R298 : ∀ v9, WL h0 v9 bk dr c di tn Rs B tf D D ck sk → RQ G mL_law d 298 [some (.ref (OLD + 999)), some (.ref 0), x2, some (.ref di), x4, some (.ref c), some (.int (nI (bLa B))), some (.ref tn), x8, x9, x10, some (.int (nI (a0 + bSe B j))), x12, some (.int (nI (j))), some (.int (oI fi)), some (.int (nI ((emp (po (rt (dF D)) (dB D j)) (su (dB D j) 6) (bSe B j) (bWy B j))))), some (.int (nI (0))), x17, x18, x19] [] v9 P := by
    intro v9 w_z
    refine tL_law_298  (r := ?_)
    refine tL_law_299  (r := ?_)
    refine s_lk hd hb hj efi (fun u9 x18 w_z => ?_) (bLa B) 0 _ _ (by omega) (by omega) w_z
    refine tL_law_513  (r := ?_)
    refine tL_law_515  (r := ?_)
    refine tL_law_517  (r := ?_)
    refine tL_law_519 (ha := w_z.2.2.2.1) (hx := rfl) (hj := hj) (hn := (by omega)) (r := ?_)
    rw [htf]
    refine tL_law_520  (kt := fun c_ => by exfalso; exact c_ (by rw [all_la hb (by omega)])) (kf := fun _ => ?_)
    refine tL_law_523  (r := ?_)
    refine tL_law_525  (r := ?_)
    refine tL_law_526  (r := ?_)
    refine tL_law_528 (hd := (by omega)) (ha := w_z.1.1) (call := w_z.k (V := nI (bSe B j)) (k_seatsOf_ok (d := d - 1) (by omega) w_z.1 hb w_z.g hj)) (k := ?_)
    rintro v_ u1_z ⟨ev_z, w_z⟩
    rw [ev_z]
    refine tL_law_531  (kf := fun c_ => by exfalso; exact c_ (by rw [ew])) (kt := fun _ => ?_)
    exact s_l536 hd hb hj efi l0 rfl w_z r
  cases fi with
  | none =>
    have t0_z : (su (dB D j) 6) = 0 := by rw [← ps_z]; exact fi_su0 efi
    refine tL_law_229  (r := ?_)
    refine tL_law_231  (kt := fun c_ => by exfalso; exact absurd c_ (by decide)) (kf := fun _ => ?_)
    refine tL_law_234  (r := ?_)
    refine tL_law_235 (r := ?_)
    refine tL_law_239  (r := ?_)
    refine tL_law_241  (r := ?_)
    refine tL_law_243 (ha := w_z.2.2.2.1) (hx := rfl) (hj := hj) (hn := (by omega)) (r := ?_)
    rw [htf]
    refine tL_law_244  (kt := fun c_ => by exfalso; exact c_ (by rw [t0_z]; rfl)) (kf := fun _ => ?_)
    refine tL_law_247  (r := ?_)
    refine tL_law_248 (r := ?_)
    refine tL_law_252  (kt := fun c_ => by exfalso; exact c_ rfl) (kf := fun _ => ?_)
    refine tL_law_255  (r := ?_)
    refine tL_law_257  (kt := fun c_ => by exfalso; exact absurd c_ (by decide)) (kf := fun _ => ?_)
    refine tL_law_260  (r := ?_)
    refine tL_law_262  (r := ?_)
    refine tL_law_263  (r := ?_)
    refine tL_law_265 (hd := (by omega)) (ha := w_z.1.1) (call := w_z.k (V := nI (bSe B j)) (k_seatsOf_ok (d := d - 1) (by omega) w_z.1 hb w_z.g hj)) (k := ?_)
    rintro v_ v4_z ⟨ev_z, w_z⟩
    rw [ev_z]
    refine tL_law_268  (kt := fun c_ => by exfalso; exact c_ (by rw [emp_none efi])) (kf := fun _ => ?_)
    refine tL_law_271  (r := ?_)
    refine tL_law_272  (r := ?_)
    refine tL_law_274 (hd := (by omega)) (ha := w_z.1.1) (call := w_z.k (V := nI (mar (po (rt (dF D)) (dB D j)))) (k_marginIn_ok (d := d - 1) (by omega) w_z.1 hb w_z.g hj)) (k := ?_)
    rintro v_ v5 ⟨ev_z, w_z⟩
    rw [ev_z, mar_none efi]
    refine tL_law_277  (kt := fun c_ => by exfalso; exact c_ (by decide)) (kf := fun _ => ?_)
    refine tL_law_280  (r := ?_)
    refine tL_law_282  (kf := fun c_ => by exfalso; exact c_ (by decide)) (kt := fun _ => ?_)
    exact R298 _ w_z
  | some f =>
    obtain ⟨f6_z, fp_z, sp_z⟩ := fi_spec efi
    have lff : f < bLa B := Classical.byContradiction (fun z_z => by
      have := pz f (by omega) f6_z
      omega)
    have rf : rt (dF D) f = f := fi_root rr efi
    have tp : 0 < (su (dB D j) 6) := by
      rw [← ps_z]
      exact Nat.lt_of_lt_of_le fp_z (su_mem f6_z)
    rw [show oI (some f) = nI f from rfl]
    refine tL_law_229  (r := ?_)
    refine tL_law_231  (kf := fun c_ => by exfalso; exact c_ (nI_pos' (by omega))) (kt := fun _ => ?_)
    refine tL_law_238  (r := ?_)
    refine tL_law_239  (r := ?_)
    refine tL_law_241  (r := ?_)
    refine tL_law_243 (ha := w_z.2.2.2.1) (hx := rfl) (hj := hj) (hn := (by omega)) (r := ?_)
    rw [htf]
    refine tL_law_244  (kf := fun c_ => by exfalso; have y_z := (nI_eq (by omega) (by decide)).mp (c_.trans nI_0.symm); omega) (kt := fun _ => ?_)
    refine tL_law_251  (r := ?_)
    refine tL_law_252  (kt := fun c_ => by exfalso; exact c_ rfl) (kf := fun _ => ?_)
    refine tL_law_255  (r := ?_)
    refine tL_law_257  (kf := fun c_ => by exfalso; exact c_ (nI_pos' (by omega))) (kt := fun _ => ?_)
    refine tL_law_280  (r := ?_)
    refine tL_law_282  (kt := fun c_ => by exfalso; exact nI_pos (by omega) c_) (kf := fun _ => ?_)
    refine tL_law_285  (r := ?_)
    refine tL_law_286  (r := ?_)
    refine tL_law_288 (hd := (by omega)) (ha := w_z.1.1) (call := w_z.k (V := nI (rt (dF D) f)) (k_leaderOf_ok (d := d - 1) (by omega) w_z.1 hb w_z.g lff)) (k := ?_)
    rintro v_ v6 ⟨ev_z, w_z⟩
    rw [ev_z, rf]
    refine tL_law_291  (r := ?_)
    refine tL_law_293  (kf := fun c_ => by exfalso; exact c_ rfl) (kt := fun _ => ?_)
    exact R298 _ w_z
set_option maxHeartbeats 4000000 in
theorem s_jars (hd : 40 ≤ d) (hb : BDok B D) (l0 : 0 < bLa B) (ht : (∀ q, q < bJa B → tf q = nI (su (dB D q) 6))) {x2 x4 x8 x9 x10 : Option Value} (o10 : ok1 x10 = true) {P : OC → AH → Prop} (r : ∀ (h1 : AH) (x14 x15 x16 x17 x18 x19 : Option Value), WL h0 h1 bk dr c di tn Rs B tf D D (ck + bJa B) (sk + 6 * bJa B) → RQ G mL_law d 745 [some (.ref (OLD + 999)), some (.ref 0), x2, some (.ref di), x4, some (.ref c), some (.int (nI (bLa B))), some (.ref tn), x8, x9, x10, some (.int (nI (su (bSe B) (bJa B)))), some (.int (nI (0))), some (.int (nI (bJa B))), x14, x15, x16, x17, x18, x19] [] h1 P) : ∀ (nn i_z : Nat) (h9 : AH) (x14 x15 x16 x17 x18 x19 : Option Value), bJa B ≤ i_z + nn → i_z ≤ bJa B → WL h0 h9 bk dr c di tn Rs B tf D D (ck + i_z) (sk + 6 * i_z) → RQ G mL_law d 177 [some (.ref (OLD + 999)), some (.ref 0), x2, some (.ref di), x4, some (.ref c), some (.int (nI (bLa B))), some (.ref tn), x8, x9, x10, some (.int (nI (su (bSe B) i_z))), some (.int (nI (0))), some (.int (nI (i_z))), x14, x15, x16, x17, x18, x19] [] h9 P := by
  have l8 := hb.2.1
  have ex_z : ∀ (i_z : Nat) (h9 : AH) (x14 x15 x16 x17 x18 x19 : Option Value), i_z = bJa B → WL h0 h9 bk dr c di tn Rs B tf D D (ck + i_z) (sk + 6 * i_z) → RQ G mL_law d 177 [some (.ref (OLD + 999)), some (.ref 0), x2, some (.ref di), x4, some (.ref c), some (.int (nI (bLa B))), some (.ref tn), x8, x9, x10, some (.int (nI (su (bSe B) i_z))), some (.int (nI (0))), some (.int (nI (i_z))), x14, x15, x16, x17, x18, x19] [] h9 P := by
    intro i_z h9 x14 x15 x16 x17 x18 x19 hi_z w_z
    subst hi_z
    refine tL_law_177  (r := ?_)
    refine tL_law_179  (r := ?_)
    refine tL_law_181 (ha := w_z.2.2.2.1) (ht := rfl) (r := ?_)
    refine tL_law_182  (kf := fun c_ => by exfalso; (simp (disch := first | omega | decide) only [ci_lt, ci_le, ci_eq, ci_lt0, ci_ge0, ci_gt0, ci_le0, ci_eq0, ci_m1_lt, ci_m1_le, ci_lt_m1, ci_le_m1, ci_eq_m1, ci_m1_eq, not_true, not_false_iff, Nat.not_lt, Nat.not_le] at c_ <;> omega)) (kt := fun _ => ?_)
    exact r h9 _ _ _ _ _ _ w_z
  intro nn
  induction nn with
  | zero => exact fun i_z h9 x14 x15 x16 x17 x18 x19 h1_ h2_ => ex_z i_z h9 x14 x15 x16 x17 x18 x19 (by omega)
  | succ nn ih =>
    intro i_z h9 x14 x15 x16 x17 x18 x19 h1_ h2_ w_z
    by_cases hi_z : i_z = bJa B
    · exact ex_z i_z h9 x14 x15 x16 x17 x18 x19 hi_z w_z
    have hi2 : i_z < bJa B := by omega
    refine tL_law_177  (r := ?_)
    refine tL_law_179  (r := ?_)
    refine tL_law_181 (ha := w_z.2.2.2.1) (ht := rfl) (r := ?_)
    refine tL_law_182  (kt := fun c_ => by exfalso; (simp (disch := first | omega | decide) only [ci_lt, ci_le, ci_eq, ci_lt0, ci_ge0, ci_gt0, ci_le0, ci_eq0, ci_m1_lt, ci_m1_le, ci_lt_m1, ci_le_m1, ci_eq_m1, ci_m1_eq, not_true, not_false_iff, Nat.not_lt, Nat.not_le] at c_ <;> omega)) (kf := fun _ => ?_)
    refine s_jar (j := i_z) hd hb hi2 rfl l0 (ht i_z hi2) o10 w_z (fun v9 x17 x18 x19 w_z => ?_)
    refine tL_law_739  (r := ?_)
    rw [nI_add]
    refine tL_law_742 (r := ?_)
    exact ih (i_z + 1) v9 _ _ _ _ _ _ (by omega) (by omega) (w_z.sub (by omega) (by omega))
end F7
