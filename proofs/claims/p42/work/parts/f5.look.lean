/-! the law looks at a jar: its labels -/
section F5
variable {G : GT} {d c di tn bk dr ck sk : Nat} {h0 h h1 : AH} {B : BK} {D D2 : DY} {Rs : Nat → List ERu} {tf : Nat → Int32}
theorem WL.k {M : MI} {pc : Nat} {L : List (Option Value)} {Z : List Value} {E1 E2 : String} {V : Int32} (w_z : WL h0 h bk dr c di tn Rs B tf D D2 ck sk) (r : RQ G M d pc L Z h (CK h bk dr ([], -1, B, D) E1 E2 0 V)) : RQ G M d pc L Z h (Ri fun v_z h1 => v_z = V ∧ WL h0 h1 bk dr c di tn Rs B tf D D2 ck sk) := by
  refine RQ.imp (CK.ri r) ?_
  rintro o h1 ⟨v_z, e_z, e2_z, q_z, ch_z⟩
  exact ⟨v_z, e_z, e2_z, w_z.cls q_z ch_z⟩
theorem WL.kd {M : MI} {pc : Nat} {L : List (Option Value)} {Z : List Value} {V : Int32} (w_z : WL h0 h bk dr c di tn Rs B tf D D2 ck sk) (r : RQ G M d pc L Z h (fun o h1 => o = .inl (some (Value.int V)) ∧ ClR h1 0 bk dr ([], -1, B, D) ∧ Ch h h1 0 216 0 0)) : RQ G M d pc L Z h (Ri fun v_z h1 => v_z = V ∧ WL h0 h1 bk dr c di tn Rs B tf D D2 ck sk) := by
  refine RQ.imp r ?_
  rintro o h1 ⟨e_z, q_z, ch_z⟩
  exact ⟨V, e_z, rfl, w_z.cls q_z ch_z⟩
theorem WL.kv {M : MI} {pc : Nat} {L : List (Option Value)} {Z : List Value} {V : UInt64} (w_z : WL h0 h bk dr c di tn Rs B tf D D2 ck sk) (r : RQ G M d pc L Z h (fun o h1 => o = .inl (some (Value.double V)) ∧ ClR h1 0 bk dr ([], -1, B, D) ∧ Ch h h1 0 216 0 0)) : RQ G M d pc L Z h (Rd fun v_z h1 => v_z = V ∧ WL h0 h1 bk dr c di tn Rs B tf D D2 ck sk) := by
  refine RQ.imp r ?_
  rintro o h1 ⟨e_z, q_z, ch_z⟩
  exact ⟨V, e_z, rfl, w_z.cls q_z ch_z⟩
theorem WL.kj {M : MI} {pc : Nat} {L : List (Option Value)} {Z : List Value} {V : Int64} (w_z : WL h0 h bk dr c di tn Rs B tf D D2 ck sk) (r : RQ G M d pc L Z h (Rj fun v_z h1 => v_z = V ∧ ClR h1 0 bk dr ([], -1, B, D) ∧ Ch h h1 0 216 0 0)) : RQ G M d pc L Z h (Rj fun v_z h1 => v_z = V ∧ WL h0 h1 bk dr c di tn Rs B tf D D2 ck sk) := by
  refine RQ.imp r ?_
  rintro o h1 ⟨v_z, e_z, e2_z, q_z, ch_z⟩
  exact ⟨v_z, e_z, e2_z, w_z.cls q_z ch_z⟩

set_option maxHeartbeats 4000000 in
theorem s_lk (hd : 40 ≤ d) (hb : BDok B D) {j : Nat} (hj : j < bJa B) {fi : Option Nat} (efi : fiN (po (rt (dF D)) (dB D j)) 6 = fi) {x2 x4 x8 x9 x10 x11 x12 x19 : Option Value} {P : OC → AH → Prop} (r : ∀ (h1 : AH) (x18 : Option Value), WL h0 h1 bk dr c di tn Rs B tf D D ck sk → RQ G mL_law d 513 [some (.ref (OLD + 999)), some (.ref 0), x2, some (.ref di), x4, some (.ref c), some (.int (nI (bLa B))), some (.ref tn), x8, x9, x10, x11, x12, some (.int (nI (j))), some (.int (oI fi)), some (.int (nI ((emp (po (rt (dF D)) (dB D j)) (su (dB D j) 6) (bSe B j) (bWy B j)) + su (wl (rt (dF D)) (po (rt (dF D)) (dB D j)) (su (dB D j) 6) (bSe B j) (bWy B j)) (bLa B)))), some (.int (nI (su (dB D j) (bLa B)))), some (.int (nI (bLa B))), x18, x19] [] h1 P) : ∀ (nn i_z : Nat) (h9 : AH) (x18 : Option Value), bLa B ≤ i_z + nn → i_z ≤ bLa B → WL h0 h9 bk dr c di tn Rs B tf D D ck sk → RQ G mL_law d 301 [some (.ref (OLD + 999)), some (.ref 0), x2, some (.ref di), x4, some (.ref c), some (.int (nI (bLa B))), some (.ref tn), x8, x9, x10, x11, x12, some (.int (nI (j))), some (.int (oI fi)), some (.int (nI ((emp (po (rt (dF D)) (dB D j)) (su (dB D j) 6) (bSe B j) (bWy B j)) + su (wl (rt (dF D)) (po (rt (dF D)) (dB D j)) (su (dB D j) 6) (bSe B j) (bWy B j)) i_z))), some (.int (nI (su (dB D j) i_z))), some (.int (nI (i_z))), x18, x19] [] h9 P := by
  have ex_z : ∀ (i_z : Nat) (h9 : AH) (x18 : Option Value), i_z = bLa B → WL h0 h9 bk dr c di tn Rs B tf D D ck sk → RQ G mL_law d 301 [some (.ref (OLD + 999)), some (.ref 0), x2, some (.ref di), x4, some (.ref c), some (.int (nI (bLa B))), some (.ref tn), x8, x9, x10, x11, x12, some (.int (nI (j))), some (.int (oI fi)), some (.int (nI ((emp (po (rt (dF D)) (dB D j)) (su (dB D j) 6) (bSe B j) (bWy B j)) + su (wl (rt (dF D)) (po (rt (dF D)) (dB D j)) (su (dB D j) 6) (bSe B j) (bWy B j)) i_z))), some (.int (nI (su (dB D j) i_z))), some (.int (nI (i_z))), x18, x19] [] h9 P := by
    intro i_z h9 x18 hi_z w_z
    subst hi_z
    have l6 := hb.1
    have l8 := hb.2.1
    have bs9 := hb.bs9 hj
    have se9 := hb.s9 hj
    have lp : ∀ k, (po (rt (dF D)) (dB D j)) k ≤ 1200 := fun k => po_le bs9 k
    have lw : ∀ k, (wo (po (rt (dF D)) (dB D j)) (su (dB D j) 6) (bSe B j) (bWy B j)) k ≤ 1209 := fun k => wo_le (lp k) se9.1
    have lb : ∀ k, k < bLa B → dB D j k ≤ 1200 := hb.bl hj
    have lr := hb.hl
    refine tL_law_301  (r := ?_)
    refine tL_law_303  (r := ?_)
    refine tL_law_305  (kf := fun c_ => by exfalso; (simp (disch := first | omega | decide) only [ci_lt, ci_le, ci_eq, ci_lt0, ci_ge0, ci_gt0, ci_le0, ci_eq0, ci_m1_lt, ci_m1_le, ci_lt_m1, ci_le_m1, ci_eq_m1, ci_m1_eq, not_true, not_false_iff, Nat.not_lt, Nat.not_le] at c_ <;> omega)) (kt := fun _ => ?_)
    exact r h9 x18 w_z
  intro nn
  induction nn with
  | zero => exact fun i_z h9 x18 h1_ h2_ => ex_z i_z h9 x18 (by omega)
  | succ nn ih =>
    intro i_z h9 x18 h1_ h2_ w_z
    by_cases hi_z : i_z = bLa B
    · exact ex_z i_z h9 x18 hi_z w_z
    have hi2 : i_z < bLa B := by omega
    have l6 := hb.1
    have l8 := hb.2.1
    have bs9 := hb.bs9 hj
    have se9 := hb.s9 hj
    have lp : ∀ k, (po (rt (dF D)) (dB D j)) k ≤ 1200 := fun k => po_le bs9 k
    have lw : ∀ k, (wo (po (rt (dF D)) (dB D j)) (su (dB D j) 6) (bSe B j) (bWy B j)) k ≤ 1209 := fun k => wo_le (lp k) se9.1
    have lb : ∀ k, k < bLa B → dB D j k ≤ 1200 := hb.bl hj
    have lr := hb.hl
    refine tL_law_301  (r := ?_)
    refine tL_law_303  (r := ?_)
    refine tL_law_305  (kt := fun c_ => by exfalso; exact absurd ((nI_leI (by omega) (by omega)).mp c_) (by omega)) (kf := fun _ => ?_)
    have rr : rt (dF D) (rt (dF D) i_z) = rt (dF D) i_z := rt_id hb (by omega)
    have lri := lr i_z hi2
    have bp : dB D j i_z ≤ (po (rt (dF D)) (dB D j)) (rt (dF D) i_z) := po_ge (r := (rt (dF D))) (b := dB D j) (k := i_z) (by omega)
    have lbi := lb i_z hi2
    have lpi := lp (rt (dF D) i_z)
    have lwi := lw (rt (dF D) i_z)
    refine tL_law_308  (r := ?_)
    refine tL_law_309  (r := ?_)
    refine tL_law_311  (r := ?_)
    refine tL_law_313 (hd := (by omega)) (ha := w_z.1.1) (call := w_z.k (V := nI ((po (rt (dF D)) (dB D j)) (rt (dF D) i_z))) (k_allianceBeans_ok (d := d - 1) (by omega) w_z.1 hb w_z.g hj hi2)) (k := ?_)
    rintro v_ w1_z ⟨ev_z, w_z⟩
    rw [ev_z]
    refine tL_law_316  (r := ?_)
    refine tL_law_318  (r := ?_)
    refine tL_law_320  (r := ?_)
    refine tL_law_321  (r := ?_)
    refine tL_law_323  (r := ?_)
    refine tL_law_325 (hd := (by omega)) (ha := w_z.1.1) (call := w_z.k (V := nI (dB D j i_z)) (k_beansIn_ok (d := d - 1) (by omega) w_z.1 hb w_z.g hj hi2)) (k := ?_)
    rintro v_ w2 ⟨ev_z, w_z⟩
    rw [ev_z]
    refine tL_law_328  (r := ?_)
    rw [nI_add]
    refine tL_law_329  (r := ?_)
    refine tL_law_331  (r := ?_)
    refine tL_law_332  (r := ?_)
    refine tL_law_334 (hd := (by omega)) (ha := w_z.1.1) (call := w_z.k (V := nI (rt (dF D) i_z)) (k_leaderOf_ok (d := d - 1) (by omega) w_z.1 hb w_z.g hi2)) (k := ?_)
    rintro v_ wc ⟨ev_z, w_z⟩
    rw [ev_z]
    have R355 : ∀ w2, WL h0 w2 bk dr c di tn Rs B tf D D ck sk → RQ G mL_law d 355 [some (.ref (OLD + 999)), some (.ref 0), x2, some (.ref di), x4, some (.ref c), some (.int (nI (bLa B))), some (.ref tn), x8, x9, x10, x11, x12, some (.int (nI (j))), some (.int (oI fi)), some (.int (nI ((emp (po (rt (dF D)) (dB D j)) (su (dB D j) 6) (bSe B j) (bWy B j)) + su (wl (rt (dF D)) (po (rt (dF D)) (dB D j)) (su (dB D j) 6) (bSe B j) (bWy B j)) (i_z + 1)))), some (.int (nI (su (dB D j) (i_z + 1)))), some (.int (nI (i_z))), some (.int (nI ((po (rt (dF D)) (dB D j)) (rt (dF D) i_z)))), x19] [] w2 P := by
      intro w2 w_z
      refine tL_law_355  (r := ?_)
      refine tL_law_356  (r := ?_)
      refine tL_law_358  (r := ?_)
      refine tL_law_360 (hd := (by omega)) (ha := w_z.1.1) (call := w_z.k (V := nI (dB D j i_z)) (k_beansIn_ok (d := d - 1) (by omega) w_z.1 hb w_z.g hj hi2)) (k := ?_)
      rintro v_ w3 ⟨ev_z, w_z⟩
      rw [ev_z]
      refine tL_law_363  (kt := fun c_ => by exfalso; exact nI_pos (by omega) c_) (kf := fun _ => ?_)
      refine tL_law_366  (r := ?_)
      refine tL_law_368  (r := ?_)
      refine tL_law_369  (r := ?_)
      refine tL_law_371  (r := ?_)
      refine tL_law_373 (hd := (by omega)) (ha := w_z.1.1) (call := w_z.k (V := nI (dB D j i_z)) (k_beansIn_ok (d := d - 1) (by omega) w_z.1 hb w_z.g hj hi2)) (k := ?_)
      rintro v_ w4 ⟨ev_z, w_z⟩
      rw [ev_z]
      refine tL_law_376  (kt := fun c_ => by exfalso; exact absurd ((nI_ltI (by omega) (by omega)).mp c_) (by omega)) (kf := fun _ => ?_)
      refine tL_law_379  (r := ?_)
      have R395 : ∀ wa, WL h0 wa bk dr c di tn Rs B tf D D ck sk → RQ G mL_law d 395 [some (.ref (OLD + 999)), some (.ref 0), x2, some (.ref di), x4, some (.ref c), some (.int (nI (bLa B))), some (.ref tn), x8, x9, x10, x11, x12, some (.int (nI (j))), some (.int (oI fi)), some (.int (nI ((emp (po (rt (dF D)) (dB D j)) (su (dB D j) 6) (bSe B j) (bWy B j)) + su (wl (rt (dF D)) (po (rt (dF D)) (dB D j)) (su (dB D j) 6) (bSe B j) (bWy B j)) (i_z + 1)))), some (.int (nI (su (dB D j) (i_z + 1)))), some (.int (nI (i_z))), some (.int (nI ((po (rt (dF D)) (dB D j)) (rt (dF D) i_z)))), x19] [] wa P := by
        intro wa w_z
        refine tL_law_395  (r := ?_)
        refine tL_law_396  (r := ?_)
        refine tL_law_398  (r := ?_)
        refine tL_law_400 (hd := (by omega)) (ha := w_z.1.1) (call := w_z.k (V := nI ((wo (po (rt (dF D)) (dB D j)) (su (dB D j) 6) (bSe B j) (bWy B j)) (rt (dF D) i_z))) (k_seatsWon_ok (d := d - 1) (by omega) w_z.1 hb w_z.g hj hi2)) (k := ?_)
        rintro v_ w5 ⟨ev_z, w_z⟩
        rw [ev_z]
        refine tL_law_403  (r := ?_)
        refine tL_law_404  (r := ?_)
        refine tL_law_406  (r := ?_)
        refine tL_law_407  (r := ?_)
        refine tL_law_409 (hd := (by omega)) (ha := w_z.1.1) (call := w_z.k (V := nI (rt (dF D) i_z)) (k_leaderOf_ok (d := d - 1) (by omega) w_z.1 hb w_z.g hi2)) (k := ?_)
        rintro v_ w6 ⟨ev_z, w_z⟩
        rw [ev_z]
        refine tL_law_412 (hd := (by omega)) (ha := w_z.1.1) (call := w_z.k (V := nI ((wo (po (rt (dF D)) (dB D j)) (su (dB D j) 6) (bSe B j) (bWy B j)) (rt (dF D) (rt (dF D) i_z)))) (k_seatsWon_ok (d := d - 1) (by omega) w_z.1 hb w_z.g hj lri)) (k := ?_)
        rintro v_ w7 ⟨ev_z, w_z⟩
        rw [ev_z, rr]
        refine tL_law_415  (kt := fun c_ => by exfalso; exact c_ rfl) (kf := fun _ => ?_)
        refine tL_law_418  (r := ?_)
        refine tL_law_420  (r := ?_)
        refine tL_law_421  (r := ?_)
        refine tL_law_423  (r := ?_)
        refine tL_law_424  (r := ?_)
        refine tL_law_426 (hd := (by omega)) (ha := w_z.1.1) (call := w_z.k (V := nI (rt (dF D) i_z)) (k_leaderOf_ok (d := d - 1) (by omega) w_z.1 hb w_z.g hi2)) (k := ?_)
        rintro v_ w8 ⟨ev_z, w_z⟩
        rw [ev_z]
        refine tL_law_429 (hd := (by omega)) (ha := w_z.1.1) (call := w_z.k (V := nI ((po (rt (dF D)) (dB D j)) (rt (dF D) (rt (dF D) i_z)))) (k_allianceBeans_ok (d := d - 1) (by omega) w_z.1 hb w_z.g hj lri)) (k := ?_)
        rintro v_ w9 ⟨ev_z, w_z⟩
        rw [ev_z, rr]
        refine tL_law_432  (kf := fun c_ => by exfalso; exact c_ rfl) (kt := fun _ => ?_)
        cases fi with
        | none =>
          refine tL_law_437  (r := ?_)
          refine tL_law_439  (kf := fun c_ => by exfalso; exact c_ (by decide)) (kt := fun _ => ?_)
          refine tL_law_507  (r := ?_)
          rw [nI_add]
          refine tL_law_510 (r := ?_)
          exact ih (i_z + 1) _ _ (by omega) (by omega) w_z
        | some f =>
          have ef := efi
          obtain ⟨f6_z, fp_z, sp_z⟩ := fi_spec ef
          have rf : rt (dF D) f = f := fi_root (fun i_z hi_z => rt_id hb hi_z) ef
          have lf_z : f < bLa B := Classical.byContradiction (fun z_z => by
            have := po_z hb (j0 := j) (by omega) f (by omega) f6_z
            omega)
          have mx_z := (sp_z (rt (dF D) i_z) (by omega)).1
          have lpf := lp f
          have lwf := lw f
          have wm : (wo (po (rt (dF D)) (dB D j)) (su (dB D j) 6) (bSe B j) (bWy B j)) (rt (dF D) i_z) ≤ (wo (po (rt (dF D)) (dB D j)) (su (dB D j) 6) (bSe B j) (bWy B j)) f := wo_mono ef (by omega)
          rw [show oI (some f) = nI f from rfl]
          refine tL_law_437  (r := ?_)
          refine tL_law_439  (kt := fun c_ => by exfalso; exact nI_pos (by omega) c_) (kf := fun _ => ?_)
          refine tL_law_442  (r := ?_)
          refine tL_law_444  (r := ?_)
          refine tL_law_445  (r := ?_)
          refine tL_law_447  (r := ?_)
          refine tL_law_449 (hd := (by omega)) (ha := w_z.1.1) (call := w_z.k (V := nI ((po (rt (dF D)) (dB D j)) (rt (dF D) f))) (k_allianceBeans_ok (d := d - 1) (by omega) w_z.1 hb w_z.g hj (j1 := f) lf_z)) (k := ?_)
          rintro v_ w10 ⟨ev_z, w_z⟩
          rw [ev_z, rf]
          refine tL_law_452  (kt := fun c_ => by exfalso; exact absurd ((nI_ltI (by omega) (by omega)).mp c_) (by omega)) (kf := fun _ => ?_)
          refine tL_law_455  (r := ?_)
          refine tL_law_456  (r := ?_)
          refine tL_law_458 (hd := (by omega)) (ha := w_z.1.1) (call := w_z.k (V := nI (rt (dF D) i_z)) (k_leaderOf_ok (d := d - 1) (by omega) w_z.1 hb w_z.g hi2)) (k := ?_)
          rintro v_ w11 ⟨ev_z, w_z⟩
          rw [ev_z]
          refine tL_law_461  (r := ?_)
          have R486 : ∀ w13, WL h0 w13 bk dr c di tn Rs B tf D D ck sk → RQ G mL_law d 486 [some (.ref (OLD + 999)), some (.ref 0), x2, some (.ref di), x4, some (.ref c), some (.int (nI (bLa B))), some (.ref tn), x8, x9, x10, x11, x12, some (.int (nI (j))), some (.int (nI (f))), some (.int (nI ((emp (po (rt (dF D)) (dB D j)) (su (dB D j) 6) (bSe B j) (bWy B j)) + su (wl (rt (dF D)) (po (rt (dF D)) (dB D j)) (su (dB D j) 6) (bSe B j) (bWy B j)) (i_z + 1)))), some (.int (nI (su (dB D j) (i_z + 1)))), some (.int (nI (i_z))), some (.int (nI ((po (rt (dF D)) (dB D j)) (rt (dF D) i_z)))), x19] [] w13 P := by
            intro w13 w_z
            refine tL_law_486  (r := ?_)
            refine tL_law_487  (r := ?_)
            refine tL_law_489  (r := ?_)
            refine tL_law_491 (hd := (by omega)) (ha := w_z.1.1) (call := w_z.k (V := nI ((wo (po (rt (dF D)) (dB D j)) (su (dB D j) 6) (bSe B j) (bWy B j)) (rt (dF D) i_z))) (k_seatsWon_ok (d := d - 1) (by omega) w_z.1 hb w_z.g hj hi2)) (k := ?_)
            rintro v_ w14 ⟨ev_z, w_z⟩
            rw [ev_z]
            refine tL_law_494  (r := ?_)
            refine tL_law_495  (r := ?_)
            refine tL_law_497  (r := ?_)
            refine tL_law_499 (hd := (by omega)) (ha := w_z.1.1) (call := w_z.k (V := nI ((wo (po (rt (dF D)) (dB D j)) (su (dB D j) 6) (bSe B j) (bWy B j)) (rt (dF D) f))) (k_seatsWon_ok (d := d - 1) (by omega) w_z.1 hb w_z.g hj (j1 := f) lf_z)) (k := ?_)
            rintro v_ w15 ⟨ev_z, w_z⟩
            rw [ev_z, rf]
            refine tL_law_502  (kf := fun c_ => by exfalso; exact c_ ((nI_leI (by omega) (by omega)).mpr wm)) (kt := fun _ => ?_)
            refine tL_law_507  (r := ?_)
            rw [nI_add]
            refine tL_law_510 (r := ?_)
            exact ih (i_z + 1) _ _ (by omega) (by omega) w_z
          refine tL_law_463  (kt := fun c_463 => ?_) (kf := fun c_463 => ?_)
          · exact R486 _ w_z
          · have nf_z : ¬ rt (dF D) i_z = f := fun e_z => c_463 (by rw [e_z])
            refine tL_law_466  (r := ?_)
            refine tL_law_468  (r := ?_)
            refine tL_law_469  (r := ?_)
            refine tL_law_471 (hd := (by omega)) (ha := w_z.1.1) (call := w_z.k (V := nI (mar (po (rt (dF D)) (dB D j)))) (k_marginIn_ok (d := d - 1) (by omega) w_z.1 hb w_z.g hj)) (k := ?_)
            rintro v_ w12 ⟨ev_z, w_z⟩
            rw [ev_z]
            refine tL_law_474  (r := ?_)
            rw [nI_add]
            refine tL_law_475  (r := ?_)
            refine tL_law_476  (r := ?_)
            refine tL_law_478  (r := ?_)
            refine tL_law_480 (hd := (by omega)) (ha := w_z.1.1) (call := w_z.k (V := nI ((po (rt (dF D)) (dB D j)) (rt (dF D) f))) (k_allianceBeans_ok (d := d - 1) (by omega) w_z.1 hb w_z.g hj (j1 := f) lf_z)) (k := ?_)
            rintro v_ w13 ⟨ev_z, w_z⟩
            rw [ev_z, rf]
            refine tL_law_483  (kt := fun c_ => by exfalso; have mg := mar_gap ef nf_z (show rt (dF D) i_z < 6 by omega); exact absurd ((nI_ltI (by omega) (by omega)).mp c_) (by omega)) (kf := fun _ => ?_)
            exact R486 _ w_z
      refine tL_law_381  (kt := fun c_381 => ?_) (kf := fun c_381 => ?_)
      · exact R395 _ w_z
      · have z0 : (po (rt (dF D)) (dB D j)) (rt (dF D) i_z) = 0 := (nI_eq (by omega) (by decide)).mp (c_381.trans nI_0.symm)
        refine tL_law_384  (r := ?_)
        refine tL_law_385  (r := ?_)
        refine tL_law_387  (r := ?_)
        refine tL_law_389 (hd := (by omega)) (ha := w_z.1.1) (call := w_z.k (V := nI ((wo (po (rt (dF D)) (dB D j)) (su (dB D j) 6) (bSe B j) (bWy B j)) (rt (dF D) i_z))) (k_seatsWon_ok (d := d - 1) (by omega) w_z.1 hb w_z.g hj hi2)) (k := ?_)
        rintro v_ wb ⟨ev_z, w_z⟩
        rw [ev_z, wo_zero z0]
        refine tL_law_392  (kt := fun c_ => by exfalso; exact absurd c_ (by decide)) (kf := fun _ => ?_)
        exact R395 _ w_z
    refine tL_law_337  (r := ?_)
    refine tL_law_339  (kt := fun c_339 => ?_) (kf := fun c_339 => ?_)
    · have z_z : ¬ rt (dF D) i_z = i_z := fun e_z => c_339 (by rw [e_z])
      have e15_z : (emp (po (rt (dF D)) (dB D j)) (su (dB D j) 6) (bSe B j) (bWy B j)) + su (wl (rt (dF D)) (po (rt (dF D)) (dB D j)) (su (dB D j) 6) (bSe B j) (bWy B j)) (i_z + 1) = (emp (po (rt (dF D)) (dB D j)) (su (dB D j) 6) (bSe B j) (bWy B j)) + su (wl (rt (dF D)) (po (rt (dF D)) (dB D j)) (su (dB D j) 6) (bSe B j) (bWy B j)) i_z := by
        show (emp (po (rt (dF D)) (dB D j)) (su (dB D j) 6) (bSe B j) (bWy B j)) + (su (wl (rt (dF D)) (po (rt (dF D)) (dB D j)) (su (dB D j) 6) (bSe B j) (bWy B j)) i_z + (if rt (dF D) i_z = i_z then (wo (po (rt (dF D)) (dB D j)) (su (dB D j) 6) (bSe B j) (bWy B j)) i_z else 0)) = _
        rw [if_neg z_z, Nat.add_zero]
      rw [← e15_z]
      exact R355 _ w_z
    · have z_z : rt (dF D) i_z = i_z := (nI_eq (by omega) (by omega)).mp c_339
      have e15_z : (emp (po (rt (dF D)) (dB D j)) (su (dB D j) 6) (bSe B j) (bWy B j)) + su (wl (rt (dF D)) (po (rt (dF D)) (dB D j)) (su (dB D j) 6) (bSe B j) (bWy B j)) (i_z + 1) = (emp (po (rt (dF D)) (dB D j)) (su (dB D j) 6) (bSe B j) (bWy B j)) + su (wl (rt (dF D)) (po (rt (dF D)) (dB D j)) (su (dB D j) 6) (bSe B j) (bWy B j)) i_z + (wo (po (rt (dF D)) (dB D j)) (su (dB D j) 6) (bSe B j) (bWy B j)) (rt (dF D) i_z) := by
        show (emp (po (rt (dF D)) (dB D j)) (su (dB D j) 6) (bSe B j) (bWy B j)) + (su (wl (rt (dF D)) (po (rt (dF D)) (dB D j)) (su (dB D j) 6) (bSe B j) (bWy B j)) i_z + (if rt (dF D) i_z = i_z then (wo (po (rt (dF D)) (dB D j)) (su (dB D j) 6) (bSe B j) (bWy B j)) i_z else 0)) = _
        rw [if_pos z_z, z_z]
        exact (Nat.add_assoc _ _ _).symm
      refine tL_law_342  (r := ?_)
      refine tL_law_344  (r := ?_)
      refine tL_law_345  (r := ?_)
      refine tL_law_347  (r := ?_)
      refine tL_law_349 (hd := (by omega)) (ha := w_z.1.1) (call := w_z.k (V := nI ((wo (po (rt (dF D)) (dB D j)) (su (dB D j) 6) (bSe B j) (bWy B j)) (rt (dF D) i_z))) (k_seatsWon_ok (d := d - 1) (by omega) w_z.1 hb w_z.g hj hi2)) (k := ?_)
      rintro v_ we ⟨ev_z, w_z⟩
      rw [ev_z]
      refine tL_law_352  (r := ?_)
      rw [nI_add, ← e15_z]
      refine tL_law_353  (r := ?_)
      exact R355 _ w_z
end F5
