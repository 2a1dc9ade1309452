/-! the law looks at all labels; what would be; days -/
section F8
variable {G : GT} {d c di tn bk dr ck sk : Nat} {h0 h h1 : AH} {B : BK} {D D2 : DY} {Rs : Nat → List ERu} {tf : Nat → Int32}

set_option maxHeartbeats 4000000 in
theorem s_labs (hd : 40 ≤ d) (hb : BDok B D) (l0 : 0 < bLa B) {x2 x4 x8 x9 x10 : Option Value} {P : OC → AH → Prop} (r : ∀ (h1 : AH) (x14 x15 x16 x17 x18 x19 : Option Value), WL h0 h1 bk dr c di tn Rs B tf D D ck sk → RQ G mL_law d 893 [some (.ref (OLD + 999)), some (.ref 0), x2, some (.ref di), x4, some (.ref c), some (.int (nI (bLa B))), some (.ref tn), x8, x9, x10, some (.int (nI ((su (bSe B) (bJa B))))), some (.int (nI (su (mjN B D) (bLa B)))), some (.int (nI (bLa B))), x14, x15, x16, x17, x18, x19] [] h1 P) : ∀ (nn i_z : Nat) (h9 : AH) (x14 x15 x16 x17 x18 x19 : Option Value), bLa B ≤ i_z + nn → i_z ≤ bLa B → WL h0 h9 bk dr c di tn Rs B tf D D ck sk → RQ G mL_law d 748 [some (.ref (OLD + 999)), some (.ref 0), x2, some (.ref di), x4, some (.ref c), some (.int (nI (bLa B))), some (.ref tn), x8, x9, x10, some (.int (nI ((su (bSe B) (bJa B))))), some (.int (nI (su (mjN B D) i_z))), some (.int (nI (i_z))), x14, x15, x16, x17, x18, x19] [] h9 P := by
  have ex_z : ∀ (i_z : Nat) (h9 : AH) (x14 x15 x16 x17 x18 x19 : Option Value), i_z = bLa B → WL h0 h9 bk dr c di tn Rs B tf D D ck sk → RQ G mL_law d 748 [some (.ref (OLD + 999)), some (.ref 0), x2, some (.ref di), x4, some (.ref c), some (.int (nI (bLa B))), some (.ref tn), x8, x9, x10, some (.int (nI ((su (bSe B) (bJa B))))), some (.int (nI (su (mjN B D) i_z))), some (.int (nI (i_z))), x14, x15, x16, x17, x18, x19] [] h9 P := by
    intro i_z h9 x14 x15 x16 x17 x18 x19 hi_z w_z
    subst hi_z
    have l6 := hb.1
    have l8 := hb.2.1
    have lr := hb.hl
    have sel := se_le hb
    have sea := se_la hb
    refine tL_law_748  (r := ?_)
    refine tL_law_750  (r := ?_)
    refine tL_law_752  (kf := fun c_ => by exfalso; (simp (disch := first | omega | decide) only [ci_lt, ci_le, ci_eq, ci_lt0, ci_ge0, ci_gt0, ci_le0, ci_eq0, ci_m1_lt, ci_m1_le, ci_lt_m1, ci_le_m1, ci_eq_m1, ci_m1_eq, not_true, not_false_iff, Nat.not_lt, Nat.not_le] at c_ <;> omega)) (kt := fun _ => ?_)
    exact r h9 _ _ _ _ _ _ w_z
  intro nn
  induction nn with
  | zero => exact fun i_z h9 x14 x15 x16 x17 x18 x19 h1_ h2_ => ex_z i_z h9 x14 x15 x16 x17 x18 x19 (by omega)
  | succ nn ih =>
    intro i_z h9 x14 x15 x16 x17 x18 x19 h1_ h2_ w_z
    by_cases hi_z : i_z = bLa B
    · exact ex_z i_z h9 x14 x15 x16 x17 x18 x19 hi_z w_z
    have hi2 : i_z < bLa B := by omega
    have l6 := hb.1
    have l8 := hb.2.1
    have lr := hb.hl
    have sel := se_le hb
    have sea := se_la hb
    refine tL_law_748  (r := ?_)
    refine tL_law_750  (r := ?_)
    refine tL_law_752  (kt := fun c_ => by exfalso; (simp (disch := first | omega | decide) only [ci_lt, ci_le, ci_eq, ci_lt0, ci_ge0, ci_gt0, ci_le0, ci_eq0, ci_m1_lt, ci_m1_le, ci_lt_m1, ci_le_m1, ci_eq_m1, ci_m1_eq, not_true, not_false_iff, Nat.not_lt, Nat.not_le] at c_ <;> omega)) (kf := fun _ => ?_)
    obtain ⟨q_z, eq9_z, q1_z, q2_z, q3_z⟩ := lead_ex hb l0
    have elq : oI (ldN (sT B D) (rt (dF D)) (bLa B)) = nI q_z := by rw [eq9_z]; rfl
    have sTq := sT_le hb q_z
    have rr : rt (dF D) (rt (dF D) i_z) = rt (dF D) i_z := rt_id hb (by omega)
    have lri := lr i_z hi2
    have gi := gov_is (B := B) (D := D) (k := i_z)
    have sTi := sT_le hb i_z
    have qi := q3_z i_z hi2
    refine tL_law_755  (r := ?_)
    refine tL_law_756  (r := ?_)
    refine tL_law_757  (r := ?_)
    refine tL_law_759 (hd := (by omega)) (ha := w_z.1.1) (call := w_z.k (V := nI (rt (dF D) i_z)) (k_leaderOf_ok (d := d - 1) (by omega) w_z.1 hb w_z.g hi2)) (k := ?_)
    rintro v_ u1_z ⟨ev_z, w_z⟩
    rw [ev_z]
    refine tL_law_762 (hd := (by omega)) (ha := w_z.1.1) (call := w_z.k (V := nI (rt (dF D) (rt (dF D) i_z))) (k_leaderOf_ok (d := d - 1) (by omega) w_z.1 hb w_z.g lri)) (k := ?_)
    rintro v_ u2_z ⟨ev_z, w_z⟩
    rw [ev_z, rr]
    refine tL_law_765  (r := ?_)
    refine tL_law_766  (r := ?_)
    refine tL_law_768 (hd := (by omega)) (ha := w_z.1.1) (call := w_z.k (V := nI (rt (dF D) i_z)) (k_leaderOf_ok (d := d - 1) (by omega) w_z.1 hb w_z.g hi2)) (k := ?_)
    rintro v_ u3 ⟨ev_z, w_z⟩
    rw [ev_z]
    refine tL_law_771  (kt := fun c_ => by exfalso; exact c_ rfl) (kf := fun _ => ?_)
    refine tL_law_774  (r := ?_)
    refine tL_law_775  (r := ?_)
    refine tL_law_777  (r := ?_)
    refine tL_law_778  (r := ?_)
    refine tL_law_780 (hd := (by omega)) (ha := w_z.1.1) (call := w_z.k (V := nI (rt (dF D) i_z)) (k_leaderOf_ok (d := d - 1) (by omega) w_z.1 hb w_z.g hi2)) (k := ?_)
    rintro v_ u4_z ⟨ev_z, w_z⟩
    rw [ev_z]
    refine tL_law_783 (hd := (by omega)) (ha := w_z.1.1) (call := w_z.k (V := (if rt (dF D) i_z = rt (dF D) (rt (dF D) i_z) then nI 1 else nI 0)) (k_areAllied_ok (d := d - 1) (by omega) w_z.1 hb w_z.g hi2 lri)) (k := ?_)
    rintro v_ u5 ⟨ev_z, w_z⟩
    rw [ev_z, rr, if_pos rfl]
    refine tL_law_786  (kt := fun c_ => by exfalso; exact absurd c_ (by decide)) (kf := fun _ => ?_)
    refine tL_law_789  (r := ?_)
    refine tL_law_790  (r := ?_)
    refine tL_law_792 (hd := (by omega)) (ha := w_z.1.1) (call := w_z.k (V := gov B D i_z) (k_hasMajority_ok (d := d - 1) (by omega) w_z.1 hb w_z.g hi2)) (k := ?_)
    rintro v_ u6 ⟨ev_z, w_z⟩
    rw [ev_z]
    refine tL_law_795  (r := ?_)
    refine tL_law_796  (r := ?_)
    refine tL_law_797  (r := ?_)
    refine tL_law_799 (hd := (by omega)) (ha := w_z.1.1) (call := w_z.k (V := nI (sT B D i_z)) (k_seatsInAll_ok (d := d - 1) (by omega) w_z.1 hb w_z.g hi2)) (k := ?_)
    rintro v_ u7 ⟨ev_z, w_z⟩
    rw [ev_z]
    refine tL_law_802  (r := ?_)
    rw [nI_mulN]
    refine tL_law_803  (r := ?_)
    have R816 : ∀ x6a : AH, WL h0 x6a bk dr c di tn Rs B tf D D ck sk → RQ G mL_law d 816 [some (.ref (OLD + 999)), some (.ref 0), x2, some (.ref di), x4, some (.ref c), some (.int (nI (bLa B))), some (.ref tn), x8, x9, x10, some (.int (nI ((su (bSe B) (bJa B))))), some (.int (nI (su (mjN B D) i_z))), some (.int (nI (i_z))), x14, x15, x16, x17, x18, x19] [] x6a P := by
      intro x6a w_z
      refine tL_law_816  (r := ?_)
      refine tL_law_817  (r := ?_)
      refine tL_law_819 (hd := (by omega)) (ha := w_z.1.1) (call := w_z.k (V := nI (sT B D i_z)) (k_seatsInAll_ok (d := d - 1) (by omega) w_z.1 hb w_z.g hi2)) (k := ?_)
      rintro v_ x7a ⟨ev_z, w_z⟩
      rw [ev_z]
      refine tL_law_822  (r := ?_)
      refine tL_law_823  (r := ?_)
      refine tL_law_824 (hd := (by omega)) (ha := w_z.1.1) (call := w_z.kd (V := oI (ldN (sT B D) (rt (dF D)) (bLa B))) (k_leading (s := ([], -1, B, D)) (d := d - 1) (by omega) w_z.1 hb)) (k := ?_)
      rintro v_ x8a ⟨ev_z, w_z⟩
      rw [ev_z, elq]
      refine tL_law_827 (hd := (by omega)) (ha := w_z.1.1) (call := w_z.k (V := nI (sT B D q_z)) (k_seatsInAll_ok (d := d - 1) (by omega) w_z.1 hb w_z.g q1_z)) (k := ?_)
      rintro v_ x9a ⟨ev_z, w_z⟩
      rw [ev_z]
      refine tL_law_830  (kt := fun c_ => by exfalso; exact absurd ((nI_ltI (by omega) (by omega)).mp c_) (by omega)) (kf := fun _ => ?_)
      refine tL_law_833  (r := ?_)
      refine tL_law_834  (r := ?_)
      refine tL_law_836 (hd := (by omega)) (ha := w_z.1.1) (call := w_z.k (V := gov B D i_z) (k_hasMajority_ok (d := d - 1) (by omega) w_z.1 hb w_z.g hi2)) (k := ?_)
      rintro v_ xaa ⟨ev_z, w_z⟩
      rw [ev_z]
      have R857 : ∀ u8 : AH, WL h0 u8 bk dr c di tn Rs B tf D D ck sk → RQ G mL_law d 857 [some (.ref (OLD + 999)), some (.ref 0), x2, some (.ref di), x4, some (.ref c), some (.int (nI (bLa B))), some (.ref tn), x8, x9, x10, some (.int (nI ((su (bSe B) (bJa B))))), some (.int (nI (su (mjN B D) i_z))), some (.int (nI (i_z))), x14, x15, x16, x17, x18, x19] [] u8 P := by
        intro u8 w_z
        refine tL_law_857  (r := ?_)
        refine tL_law_859  (r := ?_)
        refine tL_law_860  (r := ?_)
        refine tL_law_862 (hd := (by omega)) (ha := w_z.1.1) (call := w_z.k (V := nI (rt (dF D) i_z)) (k_leaderOf_ok (d := d - 1) (by omega) w_z.1 hb w_z.g hi2)) (k := ?_)
        rintro v_ y1 ⟨ev_z, w_z⟩
        rw [ev_z]
        refine tL_law_865  (r := ?_)
        have R884 : ∀ (u9 : AH) (b_z : Int32), nI (su (mjN B D) i_z) + b_z = nI (su (mjN B D) (i_z + 1)) → WL h0 u9 bk dr c di tn Rs B tf D D ck sk → RQ G mL_law d 884 [some (.ref (OLD + 999)), some (.ref 0), x2, some (.ref di), x4, some (.ref c), some (.int (nI (bLa B))), some (.ref tn), x8, x9, x10, some (.int (nI ((su (bSe B) (bJa B))))), some (.int (nI (su (mjN B D) i_z))), some (.int (nI (i_z))), x14, x15, x16, x17, x18, x19] [.int b_z, .int (nI (su (mjN B D) i_z))] u9 P := by
          intro u9 b_z eb w_z
          refine tL_law_884  (r := ?_)
          rw [eb]
          refine tL_law_885  (r := ?_)
          refine tL_law_887  (r := ?_)
          rw [nI_add]
          refine tL_law_890 (r := ?_)
          exact ih (i_z + 1) u9 _ _ _ _ _ _ (by omega) (by omega) w_z
        refine tL_law_867  (kt := fun c_867 => ?_) (kf := fun c_867 => ?_)
        · have z_z : ¬ rt (dF D) i_z = i_z := fun e_z => c_867 (by rw [e_z])
          refine tL_law_883  (r := ?_)
          exact R884 _ _ (by rw [nI_add]; symm; show nI (su (mjN B D) i_z + (if rt (dF D) i_z = i_z then (if gov B D i_z = 0 then 0 else 1) else 0)) = _; rw [if_neg z_z]) w_z
        · have z_z : rt (dF D) i_z = i_z := (nI_eq (by omega) (by omega)).mp c_867
          refine tL_law_870  (r := ?_)
          refine tL_law_871  (r := ?_)
          refine tL_law_873 (hd := (by omega)) (ha := w_z.1.1) (call := w_z.k (V := gov B D i_z) (k_hasMajority_ok (d := d - 1) (by omega) w_z.1 hb w_z.g hi2)) (k := ?_)
          rintro v_ y2 ⟨ev_z, w_z⟩
          rw [ev_z]
          refine tL_law_876  (kt := fun c_876 => ?_) (kf := fun c_876 => ?_)
          · refine tL_law_883  (r := ?_)
            exact R884 _ _ (by rw [nI_add]; symm; show nI (su (mjN B D) i_z + (if rt (dF D) i_z = i_z then (if gov B D i_z = 0 then 0 else 1) else 0)) = _; rw [if_pos z_z, if_pos c_876]) w_z
          · refine tL_law_879  (r := ?_)
            refine tL_law_880 (r := ?_)
            exact R884 _ _ (by rw [nI_add]; symm; show nI (su (mjN B D) i_z + (if rt (dF D) i_z = i_z then (if gov B D i_z = 0 then 0 else 1) else 0)) = _; rw [if_pos z_z, if_neg c_876]) w_z
      refine tL_law_839  (kt := fun c_839 => ?_) (kf := fun c_839 => ?_)
      · exact R857 _ w_z
      · refine tL_law_842  (r := ?_)
        refine tL_law_843 (hd := (by omega)) (ha := w_z.1.1) (call := w_z.kd (V := oI (ldN (sT B D) (rt (dF D)) (bLa B))) (k_leading (s := ([], -1, B, D)) (d := d - 1) (by omega) w_z.1 hb)) (k := ?_)
        rintro v_ xba ⟨ev_z, w_z⟩
        rw [ev_z, elq]
        refine tL_law_846  (r := ?_)
        refine tL_law_847  (r := ?_)
        refine tL_law_849 (hd := (by omega)) (ha := w_z.1.1) (call := w_z.k (V := nI (rt (dF D) i_z)) (k_leaderOf_ok (d := d - 1) (by omega) w_z.1 hb w_z.g hi2)) (k := ?_)
        rintro v_ xca ⟨ev_z, w_z⟩
        rw [ev_z]
        have eqr : q_z = rt (dF D) i_z := Classical.byContradiction (fun ne => by
          have m2_z := mj_two hb (show q_z < 6 by omega) (show rt (dF D) i_z < 6 by omega) q2_z rr ne
          rw [sT_rt hb (show i_z < 6 by omega)] at m2_z
          rcases gi with ⟨g1, g2⟩ | ⟨g1, g2⟩
          · omega
          · exact c_839 (g2.trans nI_0))
        refine tL_law_852  (kf := fun c_ => by exfalso; exact c_ (by rw [eqr])) (kt := fun _ => ?_)
        exact R857 _ w_z
    refine tL_law_805  (kt := fun c_805 => ?_) (kf := fun c_805 => ?_)
    · have z_z := (nI_leI (by omega) (by omega)).mp c_805
      have eg : gov B D i_z = nI 0 := by
        rcases gi with ⟨g1, g2⟩ | ⟨g1, g2⟩
        · omega
        · exact g2
      refine tL_law_812  (r := ?_)
      refine tL_law_813  (kt := fun c_ => by exfalso; exact c_ eg) (kf := fun _ => ?_)
      exact R816 _ w_z
    · have z_z : ¬ 2 * sT B D i_z ≤ su (bSe B) (bJa B) := fun y_z => c_805 ((nI_leI (by omega) (by omega)).mpr y_z)
      have eg : gov B D i_z = nI 1 := by
        rcases gi with ⟨g1, g2⟩ | ⟨g1, g2⟩
        · exact g2
        · omega
      refine tL_law_808  (r := ?_)
      refine tL_law_809 (r := ?_)
      refine tL_law_813  (kt := fun c_ => by exfalso; exact c_ eg) (kf := fun _ => ?_)
      exact R816 _ w_z
theorem du_fact (B : BK) (D : DY) (k : Nat) : ∃ iv_z, ¬ nI 100 < duV B D k 100 0 ∧ (∀ t_z, t_z ≤ 100 → (duV B D k 100 0 = nI t_z ↔ iv_z = t_z)) ∧ (∀ t_z, t_z ≤ 100 → t_z < iv_z → gov B (psN B D t_z).1 k = nI 0) ∧ (iv_z ≤ 100 → gov B (psN B D iv_z).1 k = nI 1) := by
  obtain ⟨iv_z, d1_z, d2_z, d3_z⟩ := du_spec B D k
  refine ⟨iv_z, ?_, fun t_z ht => ?_, fun t_z ht hi_z => (d3_z t_z ht hi_z).trans nI_0.symm, fun hi_z => ?_⟩
  · by_cases z_z : iv_z ≤ 100
    · rw [(d1_z z_z).1]
      exact fun y_z => absurd ((nI_ltI (by decide) (by omega)).mp y_z) (by omega)
    · rw [d2_z (by omega)]
      decide
  · by_cases z_z : iv_z ≤ 100
    · rw [(d1_z z_z).1]
      exact nI_eq (by omega) (by omega)
    · rw [d2_z (by omega)]
      refine ⟨fun y_z => ?_, fun y_z => absurd y_z (by omega)⟩
      exfalso
      have y2 : nI t_z < 0 := by rw [← y_z]; decide
      exact nI_pos (by omega) y2
  · rcases gov_is (B := B) (D := (psN B D iv_z).1) (k := k) with ⟨g1, g2⟩ | ⟨g1, g2⟩
    · exact g2
    · exact absurd (g2.trans nI_0) (d1_z hi_z).2
def waN (iv_z t_z : Nat) : Int32 := if iv_z < t_z then nI 1 else nI 0
set_option maxHeartbeats 4000000 in
theorem s_days (hd : 40 ≤ d) (hb : BDok B D) (fx : Fx B Rs) {l iv_z : Nat} {U : Int32} (f3_z : ∀ t_z, t_z ≤ 100 → (U = nI t_z ↔ iv_z = t_z)) (f4_z : ∀ t_z, t_z ≤ 100 → t_z < iv_z → gov B (psN B D t_z).1 l = nI 0) (f5_z : iv_z ≤ 100 → gov B (psN B D iv_z).1 l = nI 1) (hl : l < bLa B) {u : Nat} (hu : u ≤ 8) {x2 x4 x8 x9 x10 x11 x12 x15 : Option Value} {P : OC → AH → Prop} (r : ∀ (h1 : AH) (x19 : Option Value), WL h0 h1 bk dr c di tn Rs B tf (psN B D u).1 (psN B D u).1 (ck + 900 * u) (sk + 6000 * u) → RQ G mL_law d 1062 [some (.ref (OLD + 999)), some (.ref 0), x2, some (.ref di), x4, some (.ref c), some (.int (nI (bLa B))), some (.ref tn), x8, x9, x10, x11, x12, some (.int (nI (l))), some (.int (nI (u))), x15, some (.int U), some (.int (waN iv_z (u + 1))), some (.int (nI (u + 1))), x19] [] h1 P) : ∀ (nn i_z : Nat) (h9 : AH) (x19 : Option Value), u ≤ i_z + nn → i_z ≤ u → WL h0 h9 bk dr c di tn Rs B tf (psN B D i_z).1 (psN B D i_z).1 (ck + 900 * i_z) (sk + 6000 * i_z) → RQ G mL_law d 999 [some (.ref (OLD + 999)), some (.ref 0), x2, some (.ref di), x4, some (.ref c), some (.int (nI (bLa B))), some (.ref tn), x8, x9, x10, x11, x12, some (.int (nI (l))), some (.int (nI (u))), x15, some (.int U), some (.int (waN iv_z (i_z + 1))), some (.int (nI (i_z + 1))), x19] [] h9 P := by
  have ex_z : ∀ (i_z : Nat) (h9 : AH) (x19 : Option Value), i_z = u → WL h0 h9 bk dr c di tn Rs B tf (psN B D i_z).1 (psN B D i_z).1 (ck + 900 * i_z) (sk + 6000 * i_z) → RQ G mL_law d 999 [some (.ref (OLD + 999)), some (.ref 0), x2, some (.ref di), x4, some (.ref c), some (.int (nI (bLa B))), some (.ref tn), x8, x9, x10, x11, x12, some (.int (nI (l))), some (.int (nI (u))), x15, some (.int U), some (.int (waN iv_z (i_z + 1))), some (.int (nI (i_z + 1))), x19] [] h9 P := by
    intro i_z h9 x19 hi_z w_z
    subst hi_z
    have l6 := hb.1
    have l8 := hb.2.1
    refine tL_law_999  (r := ?_)
    refine tL_law_1001  (r := ?_)
    refine tL_law_1003  (kf := fun c_ => by exfalso; exact c_ ((nI_ltI (by omega) (by omega)).mpr (by omega))) (kt := fun _ => ?_)
    exact r h9 _ w_z
  intro nn
  induction nn with
  | zero => exact fun i_z h9 x19 h1_ h2_ => ex_z i_z h9 x19 (by omega)
  | succ nn ih =>
    intro i_z h9 x19 h1_ h2_ w_z
    by_cases hi_z : i_z = u
    · exact ex_z i_z h9 x19 hi_z w_z
    have hi2 : i_z < u := by omega
    have l6 := hb.1
    have l8 := hb.2.1
    refine tL_law_999  (r := ?_)
    refine tL_law_1001  (r := ?_)
    refine tL_law_1003  (kt := fun c_ => by exfalso; exact absurd ((nI_ltI (by omega) (by omega)).mp c_) (by omega)) (kf := fun _ => ?_)
    refine tL_law_1006  (r := ?_)
    refine tL_law_1007  (r := ?_)
    have hbi := psN_ok hb i_z
    have e1_z : (psN B (psN B D i_z).1 1).2 = (dsN B (psN B D i_z).1 (bLi B)).2 := Nat.zero_add _
    have d1_z := days_c (u := 1) (n := 1) fx (by omega) 300
    have d2_z := days_c (u := 1) (n := 1) fx (by omega) 2000
    refine tL_law_1008 (hd := (by omega)) (ha := w_z.1.1) (call := CK.ri (V := nI (psN B (psN B D i_z).1 1).2) (k_pass_ok (d := d - 1) (by omega) w_z.1 hbi w_z.g (n := 1) (by decide) (by decide))) (k := ?_)
    rintro v3 H3 ⟨ev_z, q9_z, x9a⟩
    rw [ev_z, e1_z]
    have w_z := w_z.cls (D9 := (psN B D (i_z + 1)).1) q9_z x9a
    obtain ⟨-, ⟨fo, ja, li, xj, yl, rl, jf_z, lf_z, ha⟩, -⟩ := id w_z
    obtain ⟨nly, nxy, nct⟩ := ha.nx w_z.2.2.2.1
    obtain ⟨bj, ff_z, ⟨g1, g2, g3_z, g4⟩, a5, ⟨a6, a7⟩, ⟨a8, a9⟩, ⟨a10, a11⟩, a12, a13, a14, a15, a16, a17, a18⟩ := id ha
    refine tL_law_1011  (r := ?_)
    refine tL_law_1013 (hd := (by omega)) (ha := a5) (call := s_hpass (d := d - 1) (by omega) hbi ha w_z.tl w_z.g nly nxy nct fx.1 fx.2.1) (k := ?_)
    rintro v4_z H4 ⟨e4_z, ha4, fy4⟩
    rw [e4_z]
    have w_z := w_z.fy (D9 := (psN B D (i_z + 1)).1) ha4 fy4
    have hbj := psN_ok hb (i_z + 1)
    refine tL_law_1016  (kf := fun c_ => by exfalso; exact c_ rfl) (kt := fun _ => ?_)
    refine tL_law_1021  (r := ?_)
    refine tL_law_1023  (kt := fun c_1023 => ?_) (kf := fun c_1023 => ?_)
    · have z_z : ¬ iv_z < i_z + 1 := fun y_z => by
        unfold waN at c_1023
        rw [if_pos y_z] at c_1023
        exact absurd c_1023 (by decide)
      refine tL_law_1029  (r := ?_)
      refine tL_law_1030  (r := ?_)
      refine tL_law_1032 (hd := (by omega)) (ha := w_z.1.1) (call := w_z.k (V := gov B (psN B D (i_z + 1)).1 l) (k_hasMajority_ok (d := d - 1) (by omega) w_z.1 hbj w_z.g hl)) (k := ?_)
      rintro v_ H5 ⟨ev_z, w_z⟩
      rw [ev_z]
      have eg : gov B (psN B D (i_z + 1)).1 l = waN iv_z (i_z + 1 + 1) := by
        unfold waN
        by_cases y_z : iv_z = i_z + 1
        · rw [if_pos (by omega), ← y_z]
          exact f5_z (by omega)
        · rw [if_neg (by omega)]
          exact f4_z (i_z + 1) (by omega) (by omega)
      rw [eg]
      refine tL_law_1035  (r := ?_)
      refine tL_law_1037  (r := ?_)
      refine tL_law_1039  (r := ?_)
      refine tL_law_1041  (r := ?_)
      refine tL_law_1043  (kt := fun c_1043 => ?_) (kf := fun c_1043 => ?_)
      · have y_z : ¬ iv_z = i_z + 1 := fun y_z => c_1043 ((f3_z (i_z + 1) (by omega)).mpr y_z)
        have ew : waN iv_z (i_z + 1 + 1) = nI 0 := if_neg (by omega)
        refine tL_law_1050  (r := ?_)
        refine tL_law_1051  (kf := fun c_ => by exfalso; exact c_ ew) (kt := fun _ => ?_)
        refine tL_law_1056  (r := ?_)
        rw [nI_add]
        refine tL_law_1059 (r := ?_)
        exact ih (i_z + 1) _ _ (by omega) (by omega) (w_z.sub (by omega) (by omega))
      · have y_z : iv_z = i_z + 1 := (f3_z (i_z + 1) (by omega)).mp c_1043
        have ew : waN iv_z (i_z + 1 + 1) = nI 1 := if_pos (by omega)
        refine tL_law_1046  (r := ?_)
        refine tL_law_1047 (r := ?_)
        refine tL_law_1051  (kf := fun c_ => by exfalso; exact c_ ew) (kt := fun _ => ?_)
        refine tL_law_1056  (r := ?_)
        rw [nI_add]
        refine tL_law_1059 (r := ?_)
        exact ih (i_z + 1) _ _ (by omega) (by omega) (w_z.sub (by omega) (by omega))
    · have z_z : iv_z < i_z + 1 := Classical.byContradiction (fun y_z => c_1023 (by unfold waN; rw [if_neg y_z]; rfl))
      have ew : waN iv_z (i_z + 1) = waN iv_z (i_z + 1 + 1) := by
        unfold waN
        rw [if_pos z_z, if_pos (by omega)]
      rw [ew]
      refine tL_law_1026 (r := ?_)
      refine tL_law_1056  (r := ?_)
      rw [nI_add]
      refine tL_law_1059 (r := ?_)
      exact ih (i_z + 1) _ _ (by omega) (by omega) (w_z.sub (by omega) (by omega))
set_option maxHeartbeats 4000000 in
theorem s_rest (hd : 40 ≤ d) (hb : BDok B D) (fx : Fx B Rs) {x2 x4 x8 x11 x13 x14 x15 x16 x17 x18 x19 : Option Value} {P : OC → AH → Prop} (w_z : WL h0 h bk dr c di tn Rs B tf D D ck sk) (r : ∀ (h1 : AH) (D1 : DY) (x11 x12 x13 x14 x15 x16 x17 x18 x19 : Option Value), WL h0 h1 bk dr c di tn Rs B tf D1 D1 (ck + 7200) (sk + 48000) → BDok B D1 → SmD B D D1 → RQ G mL_law d 1075 [some (.ref (OLD + 999)), some (.ref 0), x2, some (.ref di), x4, some (.ref c), some (.int (nI (bLa B))), some (.ref tn), x8, some (.long (dgA ([], -1, B, D))), none, x11, x12, x13, x14, x15, x16, x17, x18, x19] [] h1 P) : RQ G mL_law d 893 [some (.ref (OLD + 999)), some (.ref 0), x2, some (.ref di), x4, some (.ref c), some (.int (nI (bLa B))), some (.ref tn), x8, some (.long (dgA ([], -1, B, D))), none, x11, some (.int (nI (su (mjN B D) (bLa B)))), x13, x14, x15, x16, x17, x18, x19] [] h P := by
  have l6 := hb.1
  have l8 := hb.2.1
  have mj1 := mj_one hb l6
  have mn_z := mmV_n hb
  refine tL_law_893  (r := ?_)
  refine tL_law_895  (r := ?_)
  refine tL_law_896  (kt := fun c_ => by exfalso; exact absurd ((nI_ltI (by decide) (by omega)).mp c_) (by omega)) (kf := fun _ => ?_)
  refine tL_law_899  (r := ?_)
  refine tL_law_900 (hd := (by omega)) (ha := w_z.1.1) (call := w_z.kv (V := mmV B D) (k_meanMargin (d := d - 1) (by omega) w_z.1 hb)) (k := ?_)
  rintro v_ u0 ⟨ev_z, w_z⟩
  rw [ev_z]
  refine tL_law_903  (r := ?_)
  refine tL_law_904  (r := ?_)
  refine tL_law_905  (kf := fun c_ => by exfalso; exact c_ (Int32.not_lt.mp mn_z.2)) (kt := fun _ => ?_)
  refine tL_law_910  (r := ?_)
  refine tL_law_911  (r := ?_)
  refine tL_law_913 (hd := (by omega)) (ha := w_z.2.2.1.choose_spec) (call := s_dice (d := d - 1) (n := bLa B) (by omega) w_z fx.la (by omega)) (k := ?_)
  rintro v_ u1_z ⟨⟨l, hl, el⟩, w_z⟩
  rw [el]
  refine tL_law_916  (r := ?_)
  refine tL_law_918  (r := ?_)
  refine tL_law_919  (r := ?_)
  refine tL_law_920  (r := ?_)
  refine tL_law_922 (hd := (by omega)) (ha := w_z.2.2.1.choose_spec) (call := s_dice (d := d - 1) (n := 8) (by omega) w_z (by decide) (by decide)) (k := ?_)
  rintro v_ u2_z ⟨⟨k, hk, ek⟩, w_z⟩
  rw [ek]
  refine tL_law_925  (r := ?_)
  rw [nI_add]
  obtain ⟨u, eu⟩ : ∃ u, u = 1 + k := ⟨_, rfl⟩
  rw [← eu]
  have hu : u ≤ 8 := by omega
  have gp : ¬ (nI u < nI 1 ∨ nI 60 < nI u) := by
    rintro (q_z | q_z)
    · exact absurd ((nI_ltI (by omega) (by decide)).mp q_z) (by omega)
    · exact absurd ((nI_ltI (by decide) (by omega)).mp q_z) (by omega)
  refine tL_law_926  (r := ?_)
  refine tL_law_928  (r := ?_)
  refine tL_law_929  (r := ?_)
  refine tL_law_931  (r := ?_)
  refine tL_law_933 (hd := (by omega)) (ha := w_z.1.1) (call := w_z.k (V := nI (sT B (psN B D u).1 l)) (k_seatsAfter_ok (d := d - 1) (by omega) w_z.1 hb w_z.g hl (by omega) gp)) (k := ?_)
  rintro v_ u3 ⟨ev_z, w_z⟩
  rw [ev_z]
  refine tL_law_936  (r := ?_)
  refine tL_law_938  (r := ?_)
  refine tL_law_939  (r := ?_)
  refine tL_law_941 (hd := (by omega)) (ha := w_z.1.1) (call := w_z.k (V := duV B D l 100 0) (k_daysUntilMajority_ok (d := d - 1) (by omega) w_z.1 hb w_z.g hl)) (k := ?_)
  rintro v_ u4_z ⟨ev_z, w_z⟩
  rw [ev_z]
  obtain ⟨iv_z, f2_z, f3_z, f4_z, f5_z⟩ := du_fact B D l
  generalize duV B D l 100 0 = U at f2_z f3_z ⊢
  refine tL_law_944  (r := ?_)
  refine tL_law_946  (r := ?_)
  refine tL_law_947 (hd := (by omega)) (ha := w_z.1.1) (call := w_z.kj (V := dgA ([], -1, B, D)) (k_digest (d := d - 1) (by omega) w_z.1 hb w_z.g)) (k := ?_)
  rintro v_ u5 ⟨ev_z, w_z⟩
  rw [ev_z]
  refine tL_law_950  (r := ?_)
  refine tL_law_952  (r := ?_)
  refine tL_law_953  (kt := fun c_ => by exfalso; exact c_ ((lg_cmp_eq _ _).mpr rfl)) (kf := fun _ => ?_)
  refine tL_law_956  (r := ?_)
  refine tL_law_958  (r := ?_)
  refine tL_law_960  (kt := fun c_ => by exfalso; exact f2_z c_) (kf := fun _ => ?_)
  refine tL_law_963  (r := ?_)
  have R984 : ∀ u8 : AH, WL h0 u8 bk dr c di tn Rs B tf D D ck sk → RQ G mL_law d 984 [some (.ref (OLD + 999)), some (.ref 0), x2, some (.ref di), x4, some (.ref c), some (.int (nI (bLa B))), some (.ref tn), x8, some (.long (dgA ([], -1, B, D))), none, x11, some (.int (nI (su (mjN B D) (bLa B)))), some (.int (nI (l))), some (.int (nI (u))), some (.int (nI (sT B (psN B D u).1 l))), some (.int U), x17, x18, x19] [] u8 P := by
    intro u8 w_z
    refine tL_law_984  (r := ?_)
    refine tL_law_986  (kt := fun c_986 => ?_) (kf := fun c_986 => ?_)
    · have y_z : ¬ iv_z = 0 := fun y_z => c_986 (((f3_z 0 (by decide)).mpr y_z).trans nI_0)
      have ew : waN iv_z (0 + 1) = nI 0 := if_neg (by omega)
      refine tL_law_993  (r := ?_)
      refine tL_law_994  (r := ?_)
      rw [← ew]
      refine tL_law_996  (r := ?_)
      refine tL_law_997  (r := ?_)
      refine s_days hd hb fx f3_z f4_z f5_z hl hu (fun y9 x19 w_z => ?_) u 0 _ _ (by omega) (Nat.zero_le _) w_z
      have hbu := psN_ok hb u
      refine tL_law_1062  (r := ?_)
      refine tL_law_1063  (r := ?_)
      refine tL_law_1065 (hd := (by omega)) (ha := w_z.1.1) (call := w_z.k (V := nI (sT B (psN B D u).1 l)) (k_seatsInAll_ok (d := d - 1) (by omega) w_z.1 hbu w_z.g hl)) (k := ?_)
      rintro v_ y8 ⟨ev_z, w_z⟩
      rw [ev_z]
      refine tL_law_1068  (r := ?_)
      refine tL_law_1070  (kf := fun c_ => by exfalso; exact c_ rfl) (kt := fun _ => ?_)
      exact r y8 _ _ _ _ _ _ _ _ _ _ (w_z.sub (by omega) (by omega)) hbu (sm_psN fx hb u)
    · have y_z : iv_z = 0 := (f3_z 0 (by decide)).mp (c_986.trans nI_0.symm)
      have ew : waN iv_z (0 + 1) = nI 1 := if_pos (by omega)
      refine tL_law_989  (r := ?_)
      refine tL_law_990 (r := ?_)
      refine tL_law_994  (r := ?_)
      rw [← ew]
      refine tL_law_996  (r := ?_)
      refine tL_law_997  (r := ?_)
      refine s_days hd hb fx f3_z f4_z f5_z hl hu (fun y9 x19 w_z => ?_) u 0 _ _ (by omega) (Nat.zero_le _) w_z
      have hbu := psN_ok hb u
      refine tL_law_1062  (r := ?_)
      refine tL_law_1063  (r := ?_)
      refine tL_law_1065 (hd := (by omega)) (ha := w_z.1.1) (call := w_z.k (V := nI (sT B (psN B D u).1 l)) (k_seatsInAll_ok (d := d - 1) (by omega) w_z.1 hbu w_z.g hl)) (k := ?_)
      rintro v_ y8 ⟨ev_z, w_z⟩
      rw [ev_z]
      refine tL_law_1068  (r := ?_)
      refine tL_law_1070  (kf := fun c_ => by exfalso; exact c_ rfl) (kt := fun _ => ?_)
      exact r y8 _ _ _ _ _ _ _ _ _ _ (w_z.sub (by omega) (by omega)) hbu (sm_psN fx hb u)
  refine tL_law_965  (kt := fun c_965 => ?_) (kf := fun c_965 => ?_)
  · have y_z : ¬ iv_z = 0 := fun y_z => c_965 (((f3_z 0 (by decide)).mpr y_z).trans nI_0)
    have eg : gov B D l = nI 0 := f4_z 0 (by decide) (by omega)
    refine tL_law_972  (r := ?_)
    refine tL_law_973  (r := ?_)
    refine tL_law_974  (r := ?_)
    refine tL_law_976 (hd := (by omega)) (ha := w_z.1.1) (call := w_z.k (V := gov B D l) (k_hasMajority_ok (d := d - 1) (by omega) w_z.1 hb w_z.g hl)) (k := ?_)
    rintro v_ u9 ⟨ev_z, w_z⟩
    rw [ev_z, eg]
    refine tL_law_979  (kf := fun c_ => by exfalso; exact c_ rfl) (kt := fun _ => ?_)
    exact R984 _ w_z
  · have y_z : iv_z = 0 := (f3_z 0 (by decide)).mp (c_965.trans nI_0.symm)
    have eg : gov B D l = nI 1 := by
      have g5_z := f5_z (by omega)
      rw [y_z] at g5_z
      exact g5_z
    refine tL_law_968  (r := ?_)
    refine tL_law_969 (r := ?_)
    refine tL_law_973  (r := ?_)
    refine tL_law_974  (r := ?_)
    refine tL_law_976 (hd := (by omega)) (ha := w_z.1.1) (call := w_z.k (V := gov B D l) (k_hasMajority_ok (d := d - 1) (by omega) w_z.1 hb w_z.g hl)) (k := ?_)
    rintro v_ u9 ⟨ev_z, w_z⟩
    rw [ev_z, eg]
    refine tL_law_979  (kf := fun c_ => by exfalso; exact c_ rfl) (kt := fun _ => ?_)
    exact R984 _ w_z
end F8
