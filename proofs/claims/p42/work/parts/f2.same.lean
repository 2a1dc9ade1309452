/-! the class looked at: isSame -/
/-- since h0 the class has looked, and there are some new cells -/
def Lk (h0 h : AH) (bk dr : Nat) (s : ST) (ck sk : Nat) : Prop := ClR h 0 bk dr s ∧ Ch h0 h 0 216 ck sk ∧ 216 ≤ h0.1
section F2
variable {G : GT} {d c_z bk dr ck sk : Nat} {h0 h h1 : AH} {s : ST} {T : List Nat} {er : Int32} {B : BK} {D : DY} {Rs : Nat → List ERu} {tn fo ja li : Nat} {xj yl rl : Nat → Nat} {jf lf : Nat → Option Nat}
theorem Lk.g (w_z : Lk h0 h bk dr s ck sk) : 216 ≤ h.1 := Nat.le_trans w_z.2.2 w_z.2.1.1
theorem Lk.k6 (w_z : Lk h0 h bk dr s ck sk) : Kp6 h0 h := w_z.2.1.k6
theorem Lk.sub {ck2 sk2 : Nat} (w_z : Lk h0 h bk dr s ck sk) (e1_z : ck ≤ ck2) (e2_z : sk ≤ sk2) : Lk h0 h bk dr s ck2 sk2 := ⟨w_z.1, w_z.2.1.sub (Nat.le_refl _) (Nat.le_refl _) e1_z e2_z, w_z.2.2⟩
theorem Lk.go (w_z : Lk h0 h bk dr s ck sk) (q : ClR h1 0 bk dr s) (x : Ch h h1 0 216 0 0) : Lk h0 h1 bk dr s ck sk := ⟨q, (w_z.2.1.trans x).sub (Nat.le_refl _) (Nat.le_refl _) (Nat.le_refl _) (Nat.le_refl _), w_z.2.2⟩
theorem Lk.ch {ck2 sk2 : Nat} (w_z : Lk h0 h bk dr s ck sk) (x : Ch h h1 0 0 ck2 sk2) : Lk h0 h1 bk dr s (ck + ck2) (sk + sk2) := by
  have g := w_z.g
  exact ⟨w_z.1.keep x.1 (fun i_z _ i2_z => x.2.2.2.2 i_z (Nat.zero_le _) (by omega)), w_z.2.1.trans (x.sub (Nat.le_refl _) (Nat.zero_le _) (Nat.le_refl _) (Nat.le_refl _)), w_z.2.2⟩
theorem Lk.k {M : MI} {pc : Nat} {L : List (Option Value)} {Z : List Value} {E1 E2 : String} {V : Int32} (w_z : Lk h0 h bk dr s ck sk) (r : RQ G M d pc L Z h (CK h bk dr s E1 E2 0 V)) : RQ G M d pc L Z h (Ri fun v_z h1 => v_z = V ∧ Lk h0 h1 bk dr s ck sk) := by
  refine RQ.imp (CK.ri r) ?_
  rintro o h1 ⟨v_z, e_z, e2_z, c_z, ch⟩
  exact ⟨v_z, e_z, e2_z, w_z.go c_z ch⟩
theorem Lk.kd {M : MI} {pc : Nat} {L : List (Option Value)} {Z : List Value} {V : Int32} (w_z : Lk h0 h bk dr s ck sk) (r : RQ G M d pc L Z h (fun o h1 => o = .inl (some (Value.int V)) ∧ ClR h1 0 bk dr s ∧ Ch h h1 0 216 0 0)) : RQ G M d pc L Z h (Ri fun v_z h1 => v_z = V ∧ Lk h0 h1 bk dr s ck sk) := by
  refine RQ.imp r ?_
  rintro o h1 ⟨e_z, c_z, ch⟩
  exact ⟨V, e_z, rfl, w_z.go c_z ch⟩
theorem Lk.kv {M : MI} {pc : Nat} {L : List (Option Value)} {Z : List Value} {V : UInt64} (w_z : Lk h0 h bk dr s ck sk) (r : RQ G M d pc L Z h (fun o h1 => o = .inl (some (Value.double V)) ∧ ClR h1 0 bk dr s ∧ Ch h h1 0 216 0 0)) : RQ G M d pc L Z h (Rd fun v_z h1 => v_z = V ∧ Lk h0 h1 bk dr s ck sk) := by
  refine RQ.imp r ?_
  rintro o h1 ⟨e_z, c_z, ch⟩
  exact ⟨V, e_z, rfl, w_z.go c_z ch⟩

set_option maxHeartbeats 4000000 in
theorem s_isA1 (hb : BDok B D) (ha : HaX h0 c_z B D Rs tn fo ja li xj yl rl jf lf) {k : Nat} (hk : k < bLa B) {x3 x4 : Option Value} {h1 : AH} (w_z : Lk h0 h1 bk dr (T, er, B, D) ck sk) {P : OC → AH → Prop} (r : ∀ (x10 : Option Value), True → RQ G mX12_isSame d 70 [some (.ref c_z), some (.ref 0), some (.int (nI (bLa B))), x3, x4, some (.int (nI (k))), some (.int (nI (su (fun j_z => dB D j_z k) (bJa B)))), some (.ref (ja)), some (.int (nI (bJa B))), some (.int (nI (bJa B))), x10] [] h1 P) : ∀ (nn i_z : Nat) (x10 : Option Value), bJa B ≤ i_z + nn → i_z ≤ bJa B → True → RQ G mX12_isSame d 37 [some (.ref c_z), some (.ref 0), some (.int (nI (bLa B))), x3, x4, some (.int (nI (k))), some (.int (nI (su (fun j_z => dB D j_z k) i_z))), some (.ref (ja)), some (.int (nI (bJa B))), some (.int (nI (i_z))), x10] [] h1 P := by
  have ex_z : ∀ (i_z : Nat) (x10 : Option Value), i_z = bJa B → True → RQ G mX12_isSame d 37 [some (.ref c_z), some (.ref 0), some (.int (nI (bLa B))), x3, x4, some (.int (nI (k))), some (.int (nI (su (fun j_z => dB D j_z k) i_z))), some (.ref (ja)), some (.int (nI (bJa B))), some (.int (nI (i_z))), x10] [] h1 P := by
    intro i_z x10 hi_z tt
    subst hi_z
    have l6 := hb.1
    have l8 := hb.2.1
    have l9 := hb.2.2.1
    have ha9 := ha.k6 w_z.k6
    obtain ⟨bj, ff_z, ⟨g1, g2, g3_z, g4⟩, a5, ⟨a6, a7⟩, ⟨a8, a9⟩, ⟨a10, a11⟩, a12, a13, -⟩ := id ha9
    refine tX12_isSame_37  (r := ?_)
    refine tX12_isSame_39  (r := ?_)
    refine tX12_isSame_41  (kf := fun c_ => by exfalso; (simp (disch := first | omega | decide) only [ci_lt, ci_le, ci_eq, ci_lt0, ci_ge0, ci_gt0, ci_le0, ci_eq0, ci_m1_lt, ci_m1_le, ci_lt_m1, ci_le_m1, ci_eq_m1, ci_m1_eq, not_true, not_false_iff, Nat.not_lt, Nat.not_le] at c_ <;> omega)) (kt := fun _ => ?_)
    exact r _ trivial
  intro nn
  induction nn with
  | zero => exact fun i_z x10 h1_ h2_ => ex_z i_z x10 (by omega)
  | succ nn ih =>
    intro i_z x10 h1_ h2_ tt
    by_cases hi_z : i_z = bJa B
    · exact ex_z i_z x10 hi_z tt
    have hi2 : i_z < bJa B := by omega
    have l6 := hb.1
    have l8 := hb.2.1
    have l9 := hb.2.2.1
    have ha9 := ha.k6 w_z.k6
    obtain ⟨bj, ff_z, ⟨g1, g2, g3_z, g4⟩, a5, ⟨a6, a7⟩, ⟨a8, a9⟩, ⟨a10, a11⟩, a12, a13, -⟩ := id ha9
    refine tX12_isSame_37  (r := ?_)
    refine tX12_isSame_39  (r := ?_)
    refine tX12_isSame_41  (kt := fun c_ => by exfalso; (simp (disch := first | omega | decide) only [ci_lt, ci_le, ci_eq, ci_lt0, ci_ge0, ci_gt0, ci_le0, ci_eq0, ci_m1_lt, ci_m1_le, ci_lt_m1, ci_le_m1, ci_eq_m1, ci_m1_eq, not_true, not_false_iff, Nat.not_lt, Nat.not_le] at c_ <;> omega)) (kf := fun _ => ?_)
    refine tX12_isSame_44  (r := ?_)
    refine tX12_isSame_46  (r := ?_)
    refine tX12_isSame_48 (t := 5) (ha := a8) (ht := rfl) (hx := rfl) (hj := hi2) (hn := (by omega)) (hf := (a9 i_z hi2)) (r := ?_)
    refine tX12_isSame_49  (r := ?_)
    refine tX12_isSame_51  (r := ?_)
    refine tX12_isSame_53  (r := ?_)
    refine tX12_isSame_55 (ha := (a12 i_z hi2).2.2.1) (hv := rfl) (r := ?_)
    refine tX12_isSame_58  (r := ?_)
    obtain ⟨j1, j2_z, j3_z, bf, j4_z, j5_z⟩ := a12 i_z hi2
    refine tX12_isSame_60 (ha := j4_z) (hx := rfl) (hj := hk) (hn := (by omega)) (r := ?_)
    rw [j5_z k hk]
    refine tX12_isSame_61  (r := ?_)
    rw [nI_add]
    refine tX12_isSame_62  (r := ?_)
    refine tX12_isSame_64  (r := ?_)
    rw [nI_add]
    refine tX12_isSame_67 (r := ?_)
    exact ih (i_z + 1) _ (by omega) (by omega) trivial
set_option maxHeartbeats 4000000 in
theorem s_isA (hd : 12 ≤ d) (hb : BDok B D) (ha : HaX h0 c_z B D Rs tn fo ja li xj yl rl jf lf) {x4 : Option Value} (o4 : ok1 x4 = true) {P : OC → AH → Prop} (r : ∀ (h1 : AH) (x6 x7 x8 x9 x10 : Option Value), Lk h0 h1 bk dr (T, er, B, D) ck sk → RQ G mX12_isSame d 123 [some (.ref c_z), some (.ref 0), some (.int (nI (bLa B))), some (.int (nI (su (fun k => if rt (dF D) k = k then 1 else 0) (bLa B)))), x4, some (.int (nI (bLa B))), x6, x7, x8, x9, x10] [] h1 P) : ∀ (nn i_z : Nat) (h9 : AH) (x6 x7 x8 x9 x10 : Option Value), bLa B ≤ i_z + nn → i_z ≤ bLa B → Lk h0 h9 bk dr (T, er, B, D) ck sk → RQ G mX12_isSame d 14 [some (.ref c_z), some (.ref 0), some (.int (nI (bLa B))), some (.int (nI (su (fun k => if rt (dF D) k = k then 1 else 0) i_z))), x4, some (.int (nI (i_z))), x6, x7, x8, x9, x10] [] h9 P := by
  have ex_z : ∀ (i_z : Nat) (h9 : AH) (x6 x7 x8 x9 x10 : Option Value), i_z = bLa B → Lk h0 h9 bk dr (T, er, B, D) ck sk → RQ G mX12_isSame d 14 [some (.ref c_z), some (.ref 0), some (.int (nI (bLa B))), some (.int (nI (su (fun k => if rt (dF D) k = k then 1 else 0) i_z))), x4, some (.int (nI (i_z))), x6, x7, x8, x9, x10] [] h9 P := by
    intro i_z h9 x6 x7 x8 x9 x10 hi_z w_z
    subst hi_z
    have l6 := hb.1
    have l8 := hb.2.1
    have l9 := hb.2.2.1
    have ha9 := ha.k6 w_z.k6
    obtain ⟨bj, ff_z, ⟨g1, g2, g3_z, g4⟩, a5, ⟨a6, a7⟩, ⟨a8, a9⟩, ⟨a10, a11⟩, a12, a13, -⟩ := id ha9
    refine tX12_isSame_14  (r := ?_)
    refine tX12_isSame_16  (r := ?_)
    refine tX12_isSame_17  (kf := fun c_ => by exfalso; (simp (disch := first | omega | decide) only [ci_lt, ci_le, ci_eq, ci_lt0, ci_ge0, ci_gt0, ci_le0, ci_eq0, ci_m1_lt, ci_m1_le, ci_lt_m1, ci_le_m1, ci_eq_m1, ci_m1_eq, not_true, not_false_iff, Nat.not_lt, Nat.not_le] at c_ <;> omega)) (kt := fun _ => ?_)
    exact r h9 _ _ _ _ _ w_z
  intro nn
  induction nn with
  | zero => exact fun i_z h9 x6 x7 x8 x9 x10 h1_ h2_ => ex_z i_z h9 x6 x7 x8 x9 x10 (by omega)
  | succ nn ih =>
    intro i_z h9 x6 x7 x8 x9 x10 h1_ h2_ w_z
    by_cases hi_z : i_z = bLa B
    · exact ex_z i_z h9 x6 x7 x8 x9 x10 hi_z w_z
    have hi2 : i_z < bLa B := by omega
    have l6 := hb.1
    have l8 := hb.2.1
    have l9 := hb.2.2.1
    have ha9 := ha.k6 w_z.k6
    obtain ⟨bj, ff_z, ⟨g1, g2, g3_z, g4⟩, a5, ⟨a6, a7⟩, ⟨a8, a9⟩, ⟨a10, a11⟩, a12, a13, -⟩ := id ha9
    refine tX12_isSame_14  (r := ?_)
    refine tX12_isSame_16  (r := ?_)
    refine tX12_isSame_17  (kt := fun c_ => by exfalso; (simp (disch := first | omega | decide) only [ci_lt, ci_le, ci_eq, ci_lt0, ci_ge0, ci_gt0, ci_le0, ci_eq0, ci_m1_lt, ci_m1_le, ci_lt_m1, ci_le_m1, ci_eq_m1, ci_m1_eq, not_true, not_false_iff, Nat.not_lt, Nat.not_le] at c_ <;> omega)) (kf := fun _ => ?_)
    refine tX12_isSame_20  (r := ?_)
    refine tX12_isSame_21  (r := ?_)
    refine tX12_isSame_23  (r := ?_)
    refine tX12_isSame_24 (ha := a5) (hv := rfl) (r := ?_)
    refine tX12_isSame_27  (r := ?_)
    refine tX12_isSame_29  (r := ?_)
    refine tX12_isSame_31 (ha := a8) (ht := rfl) (r := ?_)
    refine tX12_isSame_32  (r := ?_)
    refine tX12_isSame_34  (r := ?_)
    refine tX12_isSame_35  (r := ?_)
    refine s_isA1 hb ha hi2 w_z (fun x10 _ => ?_) (bJa B) 0 _ (by omega) (by omega) trivial
    have R87 : ∀ b_z : Int32, nI (su (fun k => if rt (dF D) k = k then 1 else 0) i_z) + b_z = nI (su (fun k => if rt (dF D) k = k then 1 else 0) (i_z + 1)) → RQ G mX12_isSame d 87 [some (.ref c_z), some (.ref 0), some (.int (nI (bLa B))), some (.int (nI (su (fun k => if rt (dF D) k = k then 1 else 0) i_z))), x4, some (.int (nI (i_z))), some (.int (nI (su (fun j_z => dB D j_z i_z) (bJa B)))), some (.ref (ja)), some (.int (nI (bJa B))), some (.int (nI (bJa B))), x10] [.int b_z, .int (nI (su (fun k => if rt (dF D) k = k then 1 else 0) i_z))] h9 P := by
        intro b_z eb
        refine tX12_isSame_87  (r := ?_)
        rw [eb]
        refine tX12_isSame_88  (r := ?_)
        refine tX12_isSame_89  (r := ?_)
        refine tX12_isSame_90  (r := ?_)
        refine tX12_isSame_92 (hd := (by omega)) (ha := w_z.1.1) (call := w_z.k (V := nI (rt (dF D) i_z)) (k_leaderOf_ok (d := d - 1) (by omega) w_z.1 hb w_z.g hi2)) (k := ?_)
        rintro v1_z w1_z ⟨rfl, w_z⟩
        have ha9 := ha.k6 w_z.k6
        refine tX12_isSame_95  (r := ?_)
        refine tX12_isSame_96  (r := ?_)
        refine tX12_isSame_98 (hd := (by omega)) (ha := ha9.choose_spec.choose_spec.2.1) (call := s_leader (d := d - 1) (by omega) hb.1 ha9.to.fo hb.hF hb.hR hi2) (k := ?_)
        rintro v2 h_ ⟨rfl, e9_z⟩
        rw [e9_z]
        refine tX12_isSame_101  (kt := fun c_ => by exfalso; exact c_ rfl) (kf := fun _ => ?_)
        refine tX12_isSame_104  (r := ?_)
        refine tX12_isSame_105  (r := ?_)
        refine tX12_isSame_107 (hd := (by omega)) (ha := w_z.1.1) (call := w_z.k (V := nI (su (fun j_z => dB D j_z i_z) (bJa B))) (k_beansOf_ok (d := d - 1) (by omega) w_z.1 hb w_z.g hi2)) (k := ?_)
        rintro v3 w3 ⟨rfl, w_z⟩
        refine tX12_isSame_110  (r := ?_)
        refine tX12_isSame_112  (kf := fun c_ => by exfalso; exact c_ rfl) (kt := fun _ => ?_)
        refine tX12_isSame_117 (ho := o4) (r := ?_)
        rw [nI_add]
        refine tX12_isSame_120 (r := ?_)
        exact ih (i_z + 1) w3 _ _ _ _ _ (by omega) (by omega) w_z
    refine tX12_isSame_70  (r := ?_)
    refine tX12_isSame_71  (r := ?_)
    refine tX12_isSame_72  (r := ?_)
    refine tX12_isSame_74 (hd := (by omega)) (ha := a5) (call := s_leader (d := d - 1) (by omega) hb.1 ha9.to.fo hb.hF hb.hR hi2) (k := ?_)
    rintro v0_z h_ ⟨rfl, e9_z⟩
    rw [e9_z]
    refine tX12_isSame_77  (r := ?_)
    refine tX12_isSame_79  (kt := fun c_79 => ?_) (kf := fun c_79 => ?_)
    · have z_z : ¬ rt (dF D) i_z = i_z := fun e_z => c_79 (by rw [e_z])
      refine tX12_isSame_86  (r := ?_)
      exact R87 _ (by rw [nI_add]; show _ = nI (su (fun k => if rt (dF D) k = k then 1 else 0) i_z + (if rt (dF D) i_z = i_z then 1 else 0)); rw [if_neg z_z])
    · have z_z : rt (dF D) i_z = i_z := (nI_eq (by have := hb.hl i_z hi2; omega) (by omega)).mp c_79
      refine tX12_isSame_82  (r := ?_)
      refine tX12_isSame_83 (r := ?_)
      exact R87 _ (by rw [nI_add]; show _ = nI (su (fun k => if rt (dF D) k = k then 1 else 0) i_z + (if rt (dF D) i_z = i_z then 1 else 0)); rw [if_pos z_z])
set_option maxHeartbeats 4000000 in
theorem s_isB1 (hd : 12 ≤ d) (hb : BDok B D) (ha : HaX h0 c_z B D Rs tn fo ja li xj yl rl jf lf) {j_z : Nat} (hj : j_z < bJa B) {x3 x4 x8 x9 x10 : Option Value} {P : OC → AH → Prop} (r : ∀ (h1 : AH), Lk h0 h1 bk dr (T, er, B, D) (ck + bLa B) (sk + 6 * bLa B) → RQ G mX12_isSame d 280 [some (.ref c_z), some (.ref 0), some (.int (nI (bLa B))), x3, x4, some (.int (nI (j_z))), some (.ref (xj j_z)), some (.int (nI (bLa B))), x8, x9, x10] [] h1 P) : ∀ (nn i_z : Nat) (h9 : AH), bLa B ≤ i_z + nn → i_z ≤ bLa B → Lk h0 h9 bk dr (T, er, B, D) (ck + i_z) (sk + 6 * i_z) → RQ G mX12_isSame d 223 [some (.ref c_z), some (.ref 0), some (.int (nI (bLa B))), x3, x4, some (.int (nI (j_z))), some (.ref (xj j_z)), some (.int (nI (i_z))), x8, x9, x10] [] h9 P := by
  have ex_z : ∀ (i_z : Nat) (h9 : AH), i_z = bLa B → Lk h0 h9 bk dr (T, er, B, D) (ck + i_z) (sk + 6 * i_z) → RQ G mX12_isSame d 223 [some (.ref c_z), some (.ref 0), some (.int (nI (bLa B))), x3, x4, some (.int (nI (j_z))), some (.ref (xj j_z)), some (.int (nI (i_z))), x8, x9, x10] [] h9 P := by
    intro i_z h9 hi_z w_z
    subst hi_z
    have l6 := hb.1
    have l8 := hb.2.1
    have l9 := hb.2.2.1
    have ha9 := ha.k6 w_z.k6
    obtain ⟨bj, ff_z, ⟨g1, g2, g3_z, g4⟩, a5, ⟨a6, a7⟩, ⟨a8, a9⟩, ⟨a10, a11⟩, a12, a13, -⟩ := id ha9
    refine tX12_isSame_223  (r := ?_)
    refine tX12_isSame_225  (r := ?_)
    refine tX12_isSame_226  (kf := fun c_ => by exfalso; (simp (disch := first | omega | decide) only [ci_lt, ci_le, ci_eq, ci_lt0, ci_ge0, ci_gt0, ci_le0, ci_eq0, ci_m1_lt, ci_m1_le, ci_lt_m1, ci_le_m1, ci_eq_m1, ci_m1_eq, not_true, not_false_iff, Nat.not_lt, Nat.not_le] at c_ <;> omega)) (kt := fun _ => ?_)
    exact r h9 w_z
  intro nn
  induction nn with
  | zero => exact fun i_z h9 h1_ h2_ => ex_z i_z h9 (by omega)
  | succ nn ih =>
    intro i_z h9 h1_ h2_ w_z
    by_cases hi_z : i_z = bLa B
    · exact ex_z i_z h9 hi_z w_z
    have hi2 : i_z < bLa B := by omega
    have l6 := hb.1
    have l8 := hb.2.1
    have l9 := hb.2.2.1
    have ha9 := ha.k6 w_z.k6
    obtain ⟨bj, ff_z, ⟨g1, g2, g3_z, g4⟩, a5, ⟨a6, a7⟩, ⟨a8, a9⟩, ⟨a10, a11⟩, a12, a13, -⟩ := id ha9
    refine tX12_isSame_223  (r := ?_)
    refine tX12_isSame_225  (r := ?_)
    refine tX12_isSame_226  (kt := fun c_ => by exfalso; (simp (disch := first | omega | decide) only [ci_lt, ci_le, ci_eq, ci_lt0, ci_ge0, ci_gt0, ci_le0, ci_eq0, ci_m1_lt, ci_m1_le, ci_lt_m1, ci_le_m1, ci_eq_m1, ci_m1_eq, not_true, not_false_iff, Nat.not_lt, Nat.not_le] at c_ <;> omega)) (kf := fun _ => ?_)
    refine tX12_isSame_229  (r := ?_)
    refine tX12_isSame_230  (r := ?_)
    refine tX12_isSame_232  (r := ?_)
    refine tX12_isSame_234 (hd := (by omega)) (ha := w_z.1.1) (call := w_z.k (V := nI (dB D j_z i_z)) (k_beansIn_ok (d := d - 1) (by omega) w_z.1 hb w_z.g hj hi2)) (k := ?_)
    rintro v1_z w1_z ⟨rfl, w_z⟩
    have ha9 := ha.k6 w_z.k6
    obtain ⟨bj, ff_z, ⟨g1, g2, g3_z, g4⟩, a5, ⟨a6, a7⟩, ⟨a8, a9⟩, ⟨a10, a11⟩, a12, a13, -⟩ := id ha9
    obtain ⟨j1, j2_z, j3_z, bf, j4_z, j5_z⟩ := a12 j_z hj
    refine tX12_isSame_237  (r := ?_)
    refine tX12_isSame_239 (ha := j3_z) (hv := rfl) (r := ?_)
    refine tX12_isSame_242  (r := ?_)
    refine tX12_isSame_244 (ha := j4_z) (hx := rfl) (hj := hi2) (hn := (by omega)) (r := ?_)
    rw [j5_z i_z hi2]
    refine tX12_isSame_245  (kt := fun c_ => by exfalso; exact c_ rfl) (kf := fun _ => ?_)
    refine tX12_isSame_248  (r := ?_)
    refine tX12_isSame_249  (r := ?_)
    refine tX12_isSame_251  (r := ?_)
    refine tX12_isSame_253 (hd := (by omega)) (ha := w_z.1.1) (call := w_z.k (V := nI (po (rt (dF D)) (dB D j_z) (rt (dF D) i_z))) (k_allianceBeans_ok (d := d - 1) (by omega) w_z.1 hb w_z.g hj hi2)) (k := ?_)
    rintro v2 w2 ⟨rfl, w_z⟩
    have ha9 := ha.k6 w_z.k6
    obtain ⟨bj, ff_z, ⟨g1, g2, g3_z, g4⟩, a5, ⟨a6, a7⟩, ⟨a8, a9⟩, ⟨a10, a11⟩, a12, a13, -⟩ := id ha9
    refine tX12_isSame_256  (r := ?_)
    refine tX12_isSame_257  (r := ?_)
    refine tX12_isSame_259 (hd := (by omega)) (ha := a5) (call := s_blocs (d := d - 1) (by omega) hb.1 ha9.to.fo hb.hF hb.hR hb.hl (a12 j_z hj) (hb.b0 hj)) (k := ?_)
    rintro ar w3 ⟨ga, ⟨pf, ap, hp⟩, ch3⟩
    have w_z := w_z.ch ch3
    have ha9 := ha.k6 w_z.k6
    obtain ⟨bj, ff_z, ⟨g1, g2, g3_z, g4⟩, a5, ⟨a6, a7⟩, ⟨a8, a9⟩, ⟨a10, a11⟩, a12, a13, -⟩ := id ha9
    refine tX12_isSame_262  (r := ?_)
    refine tX12_isSame_263  (r := ?_)
    refine tX12_isSame_265 (hd := (by omega)) (ha := a5) (call := s_leader (d := d - 1) (by omega) hb.1 ha9.to.fo hb.hF hb.hR hi2) (k := ?_)
    rintro v0_z h_ ⟨rfl, e9_z⟩
    rw [e9_z]
    refine tX12_isSame_268 (ha := ap) (hx := rfl) (hj := (hb.hl i_z hi2)) (hn := (by omega)) (r := ?_)
    rw [hp _ (hb.hl i_z hi2)]
    refine tX12_isSame_269  (kf := fun c_ => by exfalso; exact c_ rfl) (kt := fun _ => ?_)
    refine tX12_isSame_274  (r := ?_)
    rw [nI_add]
    refine tX12_isSame_277 (r := ?_)
    exact ih (i_z + 1) w3 (by omega) (by omega) (w_z.sub (by omega) (by omega))
set_option maxHeartbeats 4000000 in
theorem s_isB (hd : 12 ≤ d) (hb : BDok B D) (ha : HaX h0 c_z B D Rs tn fo ja li xj yl rl jf lf) {x3 : Option Value} (o3 : ok1 x3 = true) {P : OC → AH → Prop} (r : ∀ (h1 : AH) (x6 x7 x8 x9 x10 : Option Value), Lk h0 h1 bk dr (T, er, B, D) (9 * bJa B) (54 * bJa B) → RQ G mX12_isSame d 286 [some (.ref c_z), some (.ref 0), some (.int (nI (bLa B))), x3, some (.int (nI (mS D (bJa B)))), some (.int (nI (bJa B))), x6, x7, x8, x9, x10] [] h1 P) : ∀ (nn i_z : Nat) (h9 : AH) (x6 x7 x8 x9 x10 : Option Value), bJa B ≤ i_z + nn → i_z ≤ bJa B → Lk h0 h9 bk dr (T, er, B, D) (9 * i_z) (54 * i_z) → RQ G mX12_isSame d 126 [some (.ref c_z), some (.ref 0), some (.int (nI (bLa B))), x3, some (.int (nI (mS D i_z))), some (.int (nI (i_z))), x6, x7, x8, x9, x10] [] h9 P := by
  have ex_z : ∀ (i_z : Nat) (h9 : AH) (x6 x7 x8 x9 x10 : Option Value), i_z = bJa B → Lk h0 h9 bk dr (T, er, B, D) (9 * i_z) (54 * i_z) → RQ G mX12_isSame d 126 [some (.ref c_z), some (.ref 0), some (.int (nI (bLa B))), x3, some (.int (nI (mS D i_z))), some (.int (nI (i_z))), x6, x7, x8, x9, x10] [] h9 P := by
    intro i_z h9 x6 x7 x8 x9 x10 hi_z w_z
    subst hi_z
    have l6 := hb.1
    have l8 := hb.2.1
    have l9 := hb.2.2.1
    have ha9 := ha.k6 w_z.k6
    obtain ⟨bj, ff_z, ⟨g1, g2, g3_z, g4⟩, a5, ⟨a6, a7⟩, ⟨a8, a9⟩, ⟨a10, a11⟩, a12, a13, -⟩ := id ha9
    refine tX12_isSame_126  (r := ?_)
    refine tX12_isSame_128  (r := ?_)
    refine tX12_isSame_129 (ha := a5) (hv := rfl) (r := ?_)
    refine tX12_isSame_132 (ha := a8) (ht := rfl) (r := ?_)
    refine tX12_isSame_133  (kf := fun c_ => by exfalso; (simp (disch := first | omega | decide) only [ci_lt, ci_le, ci_eq, ci_lt0, ci_ge0, ci_gt0, ci_le0, ci_eq0, ci_m1_lt, ci_m1_le, ci_lt_m1, ci_le_m1, ci_eq_m1, ci_m1_eq, not_true, not_false_iff, Nat.not_lt, Nat.not_le] at c_ <;> omega)) (kt := fun _ => ?_)
    exact r h9 _ _ _ _ _ w_z
  intro nn
  induction nn with
  | zero => exact fun i_z h9 x6 x7 x8 x9 x10 h1_ h2_ => ex_z i_z h9 x6 x7 x8 x9 x10 (by omega)
  | succ nn ih =>
    intro i_z h9 x6 x7 x8 x9 x10 h1_ h2_ w_z
    by_cases hi_z : i_z = bJa B
    · exact ex_z i_z h9 x6 x7 x8 x9 x10 hi_z w_z
    have hi2 : i_z < bJa B := by omega
    have l6 := hb.1
    have l8 := hb.2.1
    have l9 := hb.2.2.1
    have ha9 := ha.k6 w_z.k6
    obtain ⟨bj, ff_z, ⟨g1, g2, g3_z, g4⟩, a5, ⟨a6, a7⟩, ⟨a8, a9⟩, ⟨a10, a11⟩, a12, a13, -⟩ := id ha9
    refine tX12_isSame_126  (r := ?_)
    refine tX12_isSame_128  (r := ?_)
    refine tX12_isSame_129 (ha := a5) (hv := rfl) (r := ?_)
    refine tX12_isSame_132 (ha := a8) (ht := rfl) (r := ?_)
    refine tX12_isSame_133  (kt := fun c_ => by exfalso; (simp (disch := first | omega | decide) only [ci_lt, ci_le, ci_eq, ci_lt0, ci_ge0, ci_gt0, ci_le0, ci_eq0, ci_m1_lt, ci_m1_le, ci_lt_m1, ci_le_m1, ci_eq_m1, ci_m1_eq, not_true, not_false_iff, Nat.not_lt, Nat.not_le] at c_ <;> omega)) (kf := fun _ => ?_)
    refine tX12_isSame_136  (r := ?_)
    refine tX12_isSame_137 (ha := a5) (hv := rfl) (r := ?_)
    refine tX12_isSame_140  (r := ?_)
    refine tX12_isSame_142 (t := 5) (ha := a8) (ht := rfl) (hx := rfl) (hj := hi2) (hn := (by omega)) (hf := (a9 i_z hi2)) (r := ?_)
    refine tX12_isSame_143  (r := ?_)
    refine tX12_isSame_145  (r := ?_)
    refine tX12_isSame_147  (r := ?_)
    refine tX12_isSame_148  (r := ?_)
    refine tX12_isSame_150 (hd := (by omega)) (ha := a5) (call := s_hmargin (d := d - 1) (by omega) hb.1 ha9.to.fo hb.hF hb.hR hb.hl (a12 i_z hi2) (hb.b0 hi2) (hb.bs9 hi2)) (k := ?_)
    rintro v0_z w0 ⟨rfl, ch0⟩
    have w_z := w_z.ch ch0
    have ha9 := ha.k6 w_z.k6
    obtain ⟨bj, ff_z, ⟨g1, g2, g3_z, g4⟩, a5, ⟨a6, a7⟩, ⟨a8, a9⟩, ⟨a10, a11⟩, a12, a13, -⟩ := id ha9
    refine tX12_isSame_153  (r := ?_)
    rw [nI_add]
    refine tX12_isSame_154 (ho := o3) (r := ?_)
    refine tX12_isSame_156  (r := ?_)
    refine tX12_isSame_157  (r := ?_)
    refine tX12_isSame_159 (hd := (by omega)) (ha := w_z.1.1) (call := w_z.k (V := nI (su (dB D i_z) 6)) (k_turnout_ok (d := d - 1) (by omega) w_z.1 hb w_z.g hi2)) (k := ?_)
    rintro v1_z w1_z ⟨rfl, w_z⟩
    have ha9 := ha.k6 w_z.k6
    obtain ⟨bj, ff_z, ⟨g1, g2, g3_z, g4⟩, a5, ⟨a6, a7⟩, ⟨a8, a9⟩, ⟨a10, a11⟩, a12, a13, -⟩ := id ha9
    refine tX12_isSame_162  (r := ?_)
    refine tX12_isSame_163  (r := ?_)
    refine tX12_isSame_165 (hd := (by omega)) (ha := a5) (call := s_hturn (d := d - 1) hb.1 (a12 i_z hi2)) (k := ?_)
    rintro v0_z h_ ⟨rfl, e9_z⟩
    rw [e9_z, su_six hb.1 (hb.b0 hi2)]
    refine tX12_isSame_168  (kt := fun c_ => by exfalso; exact c_ rfl) (kf := fun _ => ?_)
    refine tX12_isSame_171  (r := ?_)
    refine tX12_isSame_172  (r := ?_)
    refine tX12_isSame_174 (hd := (by omega)) (ha := w_z.1.1) (call := w_z.k (V := nI (bSe B i_z)) (k_seatsOf_ok (d := d - 1) (by omega) w_z.1 hb w_z.g hi2)) (k := ?_)
    rintro v1_z w2 ⟨rfl, w_z⟩
    have ha9 := ha.k6 w_z.k6
    obtain ⟨bj, ff_z, ⟨g1, g2, g3_z, g4⟩, a5, ⟨a6, a7⟩, ⟨a8, a9⟩, ⟨a10, a11⟩, a12, a13, -⟩ := id ha9
    refine tX12_isSame_177  (r := ?_)
    refine tX12_isSame_179 (ha := (a12 i_z hi2).2.2.1) (hv := rfl) (r := ?_)
    refine tX12_isSame_182  (kt := fun c_ => by exfalso; exact c_ rfl) (kf := fun _ => ?_)
    refine tX12_isSame_185  (r := ?_)
    refine tX12_isSame_186  (r := ?_)
    refine tX12_isSame_188 (hd := (by omega)) (ha := w_z.1.1) (call := w_z.k (V := oI (fiN (po (rt (dF D)) (dB D i_z)) 6)) (k_firstIn_ok (d := d - 1) (by omega) w_z.1 hb w_z.g hi2)) (k := ?_)
    rintro v1_z w3 ⟨rfl, w_z⟩
    have ha9 := ha.k6 w_z.k6
    obtain ⟨bj, ff_z, ⟨g1, g2, g3_z, g4⟩, a5, ⟨a6, a7⟩, ⟨a8, a9⟩, ⟨a10, a11⟩, a12, a13, -⟩ := id ha9
    refine tX12_isSame_191  (r := ?_)
    refine tX12_isSame_192  (r := ?_)
    refine tX12_isSame_194 (hd := (by omega)) (ha := a5) (call := s_blocs (d := d - 1) (by omega) hb.1 ha9.to.fo hb.hF hb.hR hb.hl (a12 i_z hi2) (hb.b0 hi2)) (k := ?_)
    rintro ar w4 ⟨ga, ⟨pf, ap, hp⟩, ch4⟩
    have w_z := w_z.ch ch4
    have ps_z := hb.ps i_z
    have bs9 := hb.bs9 hi2
    refine tX12_isSame_197 (hd := (by omega)) (call := s_hfirst (d := d - 1) (by omega) ap hp (fun k hk => by have := po_le (r := rt (dF D)) bs9 k; omega)) (k := ?_)
    rintro v0_z h_ ⟨rfl, e9_z⟩
    rw [e9_z, fi_six hb.1 (fun k k1_z k2_z => po_z hb (by omega) k k1_z k2_z)]
    have ha9 := ha.k6 w_z.k6
    obtain ⟨bj, ff_z, ⟨g1, g2, g3_z, g4⟩, a5, ⟨a6, a7⟩, ⟨a8, a9⟩, ⟨a10, a11⟩, a12, a13, -⟩ := id ha9
    refine tX12_isSame_200  (kt := fun c_ => by exfalso; exact c_ rfl) (kf := fun _ => ?_)
    refine tX12_isSame_203  (r := ?_)
    refine tX12_isSame_204  (r := ?_)
    refine tX12_isSame_206 (hd := (by omega)) (ha := w_z.1.1) (call := w_z.k (V := nI (mar (po (rt (dF D)) (dB D i_z)))) (k_marginIn_ok (d := d - 1) (by omega) w_z.1 hb w_z.g hi2)) (k := ?_)
    rintro v1_z w5 ⟨rfl, w_z⟩
    have ha9 := ha.k6 w_z.k6
    obtain ⟨bj, ff_z, ⟨g1, g2, g3_z, g4⟩, a5, ⟨a6, a7⟩, ⟨a8, a9⟩, ⟨a10, a11⟩, a12, a13, -⟩ := id ha9
    refine tX12_isSame_209  (r := ?_)
    refine tX12_isSame_210  (r := ?_)
    refine tX12_isSame_212 (hd := (by omega)) (ha := a5) (call := s_hmargin (d := d - 1) (by omega) hb.1 ha9.to.fo hb.hF hb.hR hb.hl (a12 i_z hi2) (hb.b0 hi2) (hb.bs9 hi2)) (k := ?_)
    rintro v0_z w6 ⟨rfl, ch6⟩
    have w_z := w_z.ch ch6
    have ha9 := ha.k6 w_z.k6
    obtain ⟨bj, ff_z, ⟨g1, g2, g3_z, g4⟩, a5, ⟨a6, a7⟩, ⟨a8, a9⟩, ⟨a10, a11⟩, a12, a13, -⟩ := id ha9
    refine tX12_isSame_215  (kf := fun c_ => by exfalso; exact c_ rfl) (kt := fun _ => ?_)
    refine tX12_isSame_220  (r := ?_)
    refine tX12_isSame_221  (r := ?_)
    refine s_isB1 (ck := 9 * i_z + 3) (sk := 54 * i_z + 18) hd hb ha hi2 (fun w7 w_z => ?_) (bLa B) 0 w6 (by omega) (by omega) (w_z.sub (by omega) (by omega))
    refine tX12_isSame_280  (r := ?_)
    rw [nI_add]
    refine tX12_isSame_283 (r := ?_)
    exact ih (i_z + 1) w7 _ _ _ _ _ (by omega) (by omega) (w_z.sub (by omega) (by omega))
set_option maxHeartbeats 4000000 in
theorem s_isD (hd : 12 ≤ d) (hb : BDok B D) (ha : HaX h0 c_z B D Rs tn fo ja li xj yl rl jf lf) {x3 x4 x6 x7 x8 x9 x10 : Option Value} (o4 : ok1 x4 = true) {P : OC → AH → Prop} (r : ∀ (h1 : AH), Lk h0 h1 bk dr (T, er, B, D) ck sk → RQ G mX12_isSame d 345 [some (.ref c_z), some (.ref 0), some (.int (nI (bLa B))), x3, x4, some (.int (nI (bLi B))), x6, x7, x8, x9, x10] [] h1 P) : ∀ (nn i_z : Nat) (h9 : AH), bLi B ≤ i_z + nn → i_z ≤ bLi B → Lk h0 h9 bk dr (T, er, B, D) ck sk → RQ G mX12_isSame d 289 [some (.ref c_z), some (.ref 0), some (.int (nI (bLa B))), x3, x4, some (.int (nI (i_z))), x6, x7, x8, x9, x10] [] h9 P := by
  have ex_z : ∀ (i_z : Nat) (h9 : AH), i_z = bLi B → Lk h0 h9 bk dr (T, er, B, D) ck sk → RQ G mX12_isSame d 289 [some (.ref c_z), some (.ref 0), some (.int (nI (bLa B))), x3, x4, some (.int (nI (i_z))), x6, x7, x8, x9, x10] [] h9 P := by
    intro i_z h9 hi_z w_z
    subst hi_z
    have l6 := hb.1
    have l8 := hb.2.1
    have l9 := hb.2.2.1
    have ha9 := ha.k6 w_z.k6
    obtain ⟨bj, ff_z, ⟨g1, g2, g3_z, g4⟩, a5, ⟨a6, a7⟩, ⟨a8, a9⟩, ⟨a10, a11⟩, a12, a13, -⟩ := id ha9
    refine tX12_isSame_289  (r := ?_)
    refine tX12_isSame_291  (r := ?_)
    refine tX12_isSame_292 (ha := a5) (hv := rfl) (r := ?_)
    refine tX12_isSame_295 (ha := a10) (ht := rfl) (r := ?_)
    refine tX12_isSame_296  (kf := fun c_ => by exfalso; (simp (disch := first | omega | decide) only [ci_lt, ci_le, ci_eq, ci_lt0, ci_ge0, ci_gt0, ci_le0, ci_eq0, ci_m1_lt, ci_m1_le, ci_lt_m1, ci_le_m1, ci_eq_m1, ci_m1_eq, not_true, not_false_iff, Nat.not_lt, Nat.not_le] at c_ <;> omega)) (kt := fun _ => ?_)
    exact r h9 w_z
  intro nn
  induction nn with
  | zero => exact fun i_z h9 h1_ h2_ => ex_z i_z h9 (by omega)
  | succ nn ih =>
    intro i_z h9 h1_ h2_ w_z
    by_cases hi_z : i_z = bLi B
    · exact ex_z i_z h9 hi_z w_z
    have hi2 : i_z < bLi B := by omega
    have l6 := hb.1
    have l8 := hb.2.1
    have l9 := hb.2.2.1
    have ha9 := ha.k6 w_z.k6
    obtain ⟨bj, ff_z, ⟨g1, g2, g3_z, g4⟩, a5, ⟨a6, a7⟩, ⟨a8, a9⟩, ⟨a10, a11⟩, a12, a13, -⟩ := id ha9
    refine tX12_isSame_289  (r := ?_)
    refine tX12_isSame_291  (r := ?_)
    refine tX12_isSame_292 (ha := a5) (hv := rfl) (r := ?_)
    refine tX12_isSame_295 (ha := a10) (ht := rfl) (r := ?_)
    refine tX12_isSame_296  (kt := fun c_ => by exfalso; (simp (disch := first | omega | decide) only [ci_lt, ci_le, ci_eq, ci_lt0, ci_ge0, ci_gt0, ci_le0, ci_eq0, ci_m1_lt, ci_m1_le, ci_lt_m1, ci_le_m1, ci_eq_m1, ci_m1_eq, not_true, not_false_iff, Nat.not_lt, Nat.not_le] at c_ <;> omega)) (kf := fun _ => ?_)
    refine tX12_isSame_299  (r := ?_)
    refine tX12_isSame_300  (r := ?_)
    refine tX12_isSame_302 (hd := (by omega)) (ha := w_z.1.1) (call := w_z.k (V := nI (dL D i_z)) (k_jarOfLid_ok (d := d - 1) (by omega) w_z.1 hb w_z.g hi2)) (k := ?_)
    rintro v1_z w1_z ⟨rfl, w_z⟩
    have ha9 := ha.k6 w_z.k6
    obtain ⟨bj, ff_z, ⟨g1, g2, g3_z, g4⟩, a5, ⟨a6, a7⟩, ⟨a8, a9⟩, ⟨a10, a11⟩, a12, a13, -⟩ := id ha9
    refine tX12_isSame_305  (r := ?_)
    refine tX12_isSame_306 (ha := a5) (hv := rfl) (r := ?_)
    refine tX12_isSame_309  (r := ?_)
    refine tX12_isSame_311 (t := 6) (ha := a10) (ht := rfl) (hx := rfl) (hj := hi2) (hn := (by omega)) (hf := (a11 i_z hi2)) (r := ?_)
    refine tX12_isSame_312 (ha := (a13 i_z hi2).2.2.1) (hv := rfl) (r := ?_)
    refine tX12_isSame_315  (kt := fun c_ => by exfalso; exact c_ rfl) (kf := fun _ => ?_)
    refine tX12_isSame_318  (r := ?_)
    refine tX12_isSame_319  (r := ?_)
    refine tX12_isSame_321 (hd := (by omega)) (ha := w_z.1.1) (call := w_z.k (V := nI (bLl B i_z)) (k_labelOfLid_ok (d := d - 1) (by omega) w_z.1 hb w_z.g hi2)) (k := ?_)
    rintro v1_z w2 ⟨rfl, w_z⟩
    have ha9 := ha.k6 w_z.k6
    obtain ⟨bj, ff_z, ⟨g1, g2, g3_z, g4⟩, a5, ⟨a6, a7⟩, ⟨a8, a9⟩, ⟨a10, a11⟩, a12, a13, -⟩ := id ha9
    refine tX12_isSame_324  (r := ?_)
    refine tX12_isSame_325 (ha := a5) (hv := rfl) (r := ?_)
    refine tX12_isSame_328  (r := ?_)
    refine tX12_isSame_330 (t := 6) (ha := a10) (ht := rfl) (hx := rfl) (hj := hi2) (hn := (by omega)) (hf := (a11 i_z hi2)) (r := ?_)
    refine tX12_isSame_331 (ha := (a13 i_z hi2).2.2.1) (hv := rfl) (r := ?_)
    refine tX12_isSame_334  (kf := fun c_ => by exfalso; exact c_ rfl) (kt := fun _ => ?_)
    refine tX12_isSame_339 (ho := o4) (r := ?_)
    rw [nI_add]
    refine tX12_isSame_342 (r := ?_)
    exact ih (i_z + 1) w2 (by omega) (by omega) w_z
set_option maxHeartbeats 4000000 in
theorem s_isE (hd : 12 ≤ d) (hb : BDok B D) (ha : HaX h0 c_z B D Rs tn fo ja li xj yl rl jf lf) {x6 x7 x8 x9 x10 : Option Value} (w_z : Lk h0 h bk dr (T, er, B, D) ck sk) : RQ G mX12_isSame d 345 [some (.ref c_z), some (.ref 0), some (.int (nI (bLa B))), some (.int (nI (su (fun k => if rt (dF D) k = k then 1 else 0) (bLa B)))), some (.int (nI (mS D (bJa B)))), some (.int (nI (bLi B))), x6, x7, x8, x9, x10] [] h (Ri fun r h1 => r = nI 1 ∧ Lk h0 h1 bk dr (T, er, B, D) ck sk) := by
  have l6 := hb.1
  have l8 := hb.2.1
  have l9 := hb.2.2.1
  have mn_z := mmV_n hb
  refine tX12_isSame_345  (r := ?_)
  refine tX12_isSame_346 (hd := (by omega)) (ha := w_z.1.1) (call := w_z.kd (V := nI (bLa B)) (k_labels (d := d - 1) w_z.1 hb)) (k := ?_)
  rintro v1_z w1_z ⟨rfl, w_z⟩
  refine tX12_isSame_349  (r := ?_)
  refine tX12_isSame_350  (kt := fun c_ => by exfalso; exact c_ rfl) (kf := fun _ => ?_)
  refine tX12_isSame_353  (r := ?_)
  refine tX12_isSame_354 (hd := (by omega)) (ha := w_z.1.1) (call := w_z.kd (V := nI (bJa B)) (k_jars (d := d - 1) w_z.1 hb)) (k := ?_)
  rintro v1_z w2 ⟨rfl, w_z⟩
  have ha9 := ha.k6 w_z.k6
  obtain ⟨bj, ff_z, ⟨g1, g2, g3_z, g4⟩, a5, ⟨a6, a7⟩, ⟨a8, a9⟩, ⟨a10, a11⟩, a12, a13, -⟩ := id ha9
  refine tX12_isSame_357  (r := ?_)
  refine tX12_isSame_358 (ha := a5) (hv := rfl) (r := ?_)
  refine tX12_isSame_361 (ha := a8) (ht := rfl) (r := ?_)
  refine tX12_isSame_362  (kt := fun c_ => by exfalso; exact c_ rfl) (kf := fun _ => ?_)
  refine tX12_isSame_365  (r := ?_)
  refine tX12_isSame_366 (hd := (by omega)) (ha := w_z.1.1) (call := w_z.kd (V := nI (bLi B)) (k_lids (d := d - 1) w_z.1 hb)) (k := ?_)
  rintro v1_z w3 ⟨rfl, w_z⟩
  have ha9 := ha.k6 w_z.k6
  obtain ⟨bj, ff_z, ⟨g1, g2, g3_z, g4⟩, a5, ⟨a6, a7⟩, ⟨a8, a9⟩, ⟨a10, a11⟩, a12, a13, -⟩ := id ha9
  refine tX12_isSame_369  (r := ?_)
  refine tX12_isSame_370 (ha := a5) (hv := rfl) (r := ?_)
  refine tX12_isSame_373 (ha := a10) (ht := rfl) (r := ?_)
  refine tX12_isSame_374  (kt := fun c_ => by exfalso; exact c_ rfl) (kf := fun _ => ?_)
  refine tX12_isSame_377  (r := ?_)
  refine tX12_isSame_378 (hd := (by omega)) (ha := w_z.1.1) (call := w_z.kd (V := dDay D) (k_days (d := d - 1) w_z.1 hb)) (k := ?_)
  rintro v1_z w4 ⟨rfl, w_z⟩
  have ha9 := ha.k6 w_z.k6
  obtain ⟨bj, ff_z, ⟨g1, g2, g3_z, g4⟩, a5, ⟨a6, a7⟩, ⟨a8, a9⟩, ⟨a10, a11⟩, a12, a13, -⟩ := id ha9
  refine tX12_isSame_381  (r := ?_)
  refine tX12_isSame_382 (ha := a5) (hv := rfl) (r := ?_)
  refine tX12_isSame_385  (kt := fun c_ => by exfalso; exact c_ rfl) (kf := fun _ => ?_)
  refine tX12_isSame_388  (r := ?_)
  refine tX12_isSame_389 (hd := (by omega)) (ha := w_z.1.1) (call := w_z.kd (V := nI (su (fun k => if rt (dF D) k = k then 1 else 0) (bLa B))) (k_alliances (d := d - 1) w_z.1 hb)) (k := ?_)
  rintro v1_z w5 ⟨rfl, w_z⟩
  refine tX12_isSame_392  (r := ?_)
  refine tX12_isSame_393  (kt := fun c_ => by exfalso; exact c_ rfl) (kf := fun _ => ?_)
  refine tX12_isSame_396  (r := ?_)
  refine tX12_isSame_397 (hd := (by omega)) (ha := w_z.1.1) (call := w_z.kv (V := mmV B D) (k_meanMargin (d := d - 1) (by omega) w_z.1 hb)) (k := ?_)
  rintro v1_z w6 ⟨rfl, w_z⟩
  have ha9 := ha.k6 w_z.k6
  obtain ⟨bj, ff_z, ⟨g1, g2, g3_z, g4⟩, a5, ⟨a6, a7⟩, ⟨a8, a9⟩, ⟨a10, a11⟩, a12, a13, -⟩ := id ha9
  have R422 : RQ G mX12_isSame d 422 [some (.ref c_z), some (.ref 0), some (.int (nI (bLa B))), some (.int (nI (su (fun k => if rt (dF D) k = k then 1 else 0) (bLa B)))), some (.int (nI (mS D (bJa B)))), some (.int (nI (bLi B))), x6, x7, x8, x9, x10] [.double (mmV B D), .double (mmV B D)] w6 (Ri fun r h1 => r = nI 1 ∧ Lk h0 h1 bk dr (T, er, B, D) ck sk) := by
    refine tX12_isSame_422  (r := ?_)
    refine tX12_isSame_423  (kt := fun c_ => by exfalso; exact c_ (dc_refl mn_z.1)) (kf := fun _ => ?_)
    refine tX12_isSame_426  (r := ?_)
    refine tX12_isSame_427 (r := ?_)
    refine tX12_isSame_431 (hb := (by first | exact Or.inl rfl | exact Or.inr rfl | assumption)) (hP := ?_)
    exact ⟨_, rfl, rfl, w_z⟩
  refine tX12_isSame_400  (r := ?_)
  refine tX12_isSame_401 (ha := a5) (hv := rfl) (r := ?_)
  refine tX12_isSame_404 (ha := a8) (ht := rfl) (r := ?_)
  refine tX12_isSame_405  (kt := fun c_405 => ?_) (kf := fun c_405 => ?_)
  · have z_z : ¬ bJa B = 0 := fun e_z => c_405 (by show nI (bJa B) = 0; rw [e_z]; rfl)
    refine tX12_isSame_412  (r := ?_)
    refine tX12_isSame_414  (r := ?_)
    refine tX12_isSame_415  (r := ?_)
    refine tX12_isSame_416 (ha := a5) (hv := rfl) (r := ?_)
    refine tX12_isSame_419 (ha := a8) (ht := rfl) (r := ?_)
    refine tX12_isSame_420  (r := ?_)
    have em : mmV B D = FP.ddiv (FP.i2d (nI (mS D (bJa B)))) (FP.i2d (nI (bJa B))) := by unfold mmV; rw [if_neg z_z]
    refine tX12_isSame_421 (hne := (by rw [← em]; exact mn_z.1)) (r := ?_)
    rw [← em]
    exact R422
  · have z_z : bJa B = 0 := by
      rw [← nI_0] at c_405
      exact (nI_eq (by omega) (by decide)).mp c_405
    refine tX12_isSame_408  (r := ?_)
    refine tX12_isSame_409 (r := ?_)
    have e_z : mmV B D = FP.dconst0 := by unfold mmV; rw [if_pos z_z]
    rw [e_z] at R422 ⊢
    exact R422
set_option maxHeartbeats 4000000 in
theorem s_same (hd : 12 ≤ d) (hb : BDok B D) (ha : HaX h0 c_z B D Rs tn fo ja li xj yl rl jf lf) (q : ClR h0 0 bk dr (T, er, B, D)) (g : 216 ≤ h0.1) : RQ G mX12_isSame d 0 [some (.ref c_z), some (.ref 0), none, none, none, none, none, none, none, none, none] [] h0 (Ri fun r h1 => r = nI 1 ∧ Lk h0 h1 bk dr (T, er, B, D) 72 432) := by
  have l6 := hb.1
  have l8 := hb.2.1
  have l9 := hb.2.2.1
  have ha9 := ha
  obtain ⟨bj, ff_z, ⟨g1, g2, g3_z, g4⟩, a5, ⟨a6, a7⟩, ⟨a8, a9⟩, ⟨a10, a11⟩, a12, a13, -⟩ := id ha9
  have w_z : Lk h0 h0 bk dr (T, er, B, D) 0 0 := ⟨q, Ch.rf h0 0 216 0 0, g⟩
  refine tX12_isSame_0  (r := ?_)
  refine tX12_isSame_1 (ha := a5) (hv := rfl) (r := ?_)
  refine tX12_isSame_4 (ha := a6) (ht := rfl) (r := ?_)
  refine tX12_isSame_5  (r := ?_)
  refine tX12_isSame_6  (r := ?_)
  refine tX12_isSame_7  (r := ?_)
  refine tX12_isSame_8  (r := ?_)
  refine tX12_isSame_9  (r := ?_)
  refine tX12_isSame_11  (r := ?_)
  refine tX12_isSame_12  (r := ?_)
  refine s_isA hd hb ha rfl (fun w1_z x6 x7 x8 x9 x10 w_z => ?_) (bLa B) 0 h0 none none none none none (by omega) (by omega) w_z
  refine tX12_isSame_123  (r := ?_)
  refine tX12_isSame_124  (r := ?_)
  refine s_isB hd hb ha rfl (fun w2 x6 x7 x8 x9 x10 w_z => ?_) (bJa B) 0 w1_z _ _ _ _ _ (by omega) (by omega) w_z
  refine tX12_isSame_286  (r := ?_)
  refine tX12_isSame_287  (r := ?_)
  refine s_isD hd hb ha rfl (fun w3 w_z => ?_) (bLi B) 0 w2 (by omega) (by omega) w_z
  exact RQ.imp (s_isE hd hb ha w_z) (fun o9 h9 e_z => by obtain ⟨r, e1_z, e2_z, w_z⟩ := e_z; exact ⟨r, e1_z, e2_z, w_z.sub (by omega) (by omega)⟩)
end F2
