/-! days by hand -/
section HD
variable {G : GT} {d : Nat} {h h0 : AH} {c i : Nat} {B : BK} {D : DY} {Rs : Nat → List ERu} {tn fo ja li : Nat} {xj yl rl : Nat → Nat} {jf lf : Nat → Option Nat}
theorem doA_ok (hb : BDok B D) (hi : i < bLi B) {e : EAc} (ok : okAc (bLa B) (bJa B) e) : BDok B (doA B i D e) := by
  obtain ⟨so, w, v⟩ := e
  obtain ⟨o1, o2, o3, o4⟩ := ok
  have o1 : so ≤ 4 := o1
  have o2 : so = 1 → w < bJa B := o2
  have o3 : so ≠ 1 → w < bLa B := o3
  refine doV_ok hb hi ⟨fun z => ?_, fun z => ?_⟩
  · have z : acN so = 9 ∨ acN so = 13 := z
    exact o3 (fun e => by subst e; revert z; decide)
  · have z : acN so = 11 := z
    have : so = 1 := by
      rcases (by omega : so = 0 ∨ so = 1 ∨ so = 2 ∨ so = 3 ∨ so = 4) with rfl | rfl | rfl | rfl | rfl <;> first | rfl | (revert z; decide)
    exact o2 this
theorem fold_ok (hi : i < bLi B) : ∀ (s : List EAc) (D : DY), BDok B D → (∀ e ∈ s, okAc (bLa B) (bJa B) e) → BDok B (s.foldl (doA B i) D)
  | [], _, hb, _ => hb
  | e :: s, D, hb, ok => fold_ok hi s (doA B i D e) (doA_ok hb hi (ok e List.mem_cons_self)) (fun x hx => ok x (List.mem_cons_of_mem _ hx))
theorem Fy.at {h1 : AH} {ck sk j : Nat} {x : AC} (a : Fy h h1 tn ck sk) (q : At h j x) (n : NMt x) : At h1 j x := q.keep a.1 (a.2.2.2 j q.1 (Or.inr (Or.inr (by rw [q.2]; exact n))))
theorem nmt7 {k : Nat} {v : vp_A} (h : k ≠ 0) : NMt (.inl (k, v)) := Or.inr ⟨_, _, rfl, h⟩

set_option maxHeartbeats 4000000 in
theorem s_hacts (hd : 13 ≤ d) (hi : i < bLi B) (ht : tn < h0.1) (h216 : 216 ≤ h0.1) (nly : ∀ i, i < bLi B → yl i ≠ tn) (nxy : ∀ j, j < bJa B → xj j ≠ tn) {m ru n2 k rz ac : Nat} {s : List EAc} (s3 : s.length ≤ 3) {f : Nat → Option Nat} (aa : At h0 ac (.inl (8, s.length, .inr (.inr (.inr (.inr f)))))) (ok : ∀ e ∈ s, okAc (bLa B) (bJa B) e) (qa : ∀ j (hj : j < s.length), ∃ z, f j = some z ∧ AcR h0 z s[j]) {P : OC → AH → Prop} : ∀ (n t : Nat) (h9 : AH) (D9 : DY) (x13 : Option Value), s.length ≤ t + n → t ≤ s.length → HaX h9 c B D9 Rs tn fo ja li xj yl rl jf lf → BDok B D9 → Fy h0 h9 tn (33 * t) (220 * t) → (∀ (h1 : AH) (D1 : DY) (x12 x13 : Option Value), HaX h1 c B D1 Rs tn fo ja li xj yl rl jf lf → BDok B D1 → D1 = (s.drop t).foldl (doA B i) D9 → Fy h0 h1 tn (33 * s.length) (220 * s.length) → RQ G mX12_pass d 114 [some (.ref c), some (.int (nI m)), some (.ref li), some (.int (nI (bLi B))), some (.int (nI i)), some (.ref (yl i)), some (.ref ru), some (.int (nI n2)), some (.int (nI k)), some (.ref rz), some (.ref ac), some (.int (nI s.length)), x12, x13] [] h1 P) → RQ G mX12_pass d 86 [some (.ref c), some (.int (nI m)), some (.ref li), some (.int (nI (bLi B))), some (.int (nI i)), some (.ref (yl i)), some (.ref ru), some (.int (nI n2)), some (.int (nI k)), some (.ref rz), some (.ref ac), some (.int (nI s.length)), some (.int (nI (t))), x13] [] h9 P := by
  have ex : ∀ (t : Nat) (h9 : AH) (D9 : DY) (x13 : Option Value), t = s.length → HaX h9 c B D9 Rs tn fo ja li xj yl rl jf lf → BDok B D9 → Fy h0 h9 tn (33 * t) (220 * t) → (∀ (h1 : AH) (D1 : DY) (x12 x13 : Option Value), HaX h1 c B D1 Rs tn fo ja li xj yl rl jf lf → BDok B D1 → D1 = (s.drop t).foldl (doA B i) D9 → Fy h0 h1 tn (33 * s.length) (220 * s.length) → RQ G mX12_pass d 114 [some (.ref c), some (.int (nI m)), some (.ref li), some (.int (nI (bLi B))), some (.int (nI i)), some (.ref (yl i)), some (.ref ru), some (.int (nI n2)), some (.int (nI k)), some (.ref rz), some (.ref ac), some (.int (nI s.length)), x12, x13] [] h1 P) → RQ G mX12_pass d 86 [some (.ref c), some (.int (nI m)), some (.ref li), some (.int (nI (bLi B))), some (.int (nI i)), some (.ref (yl i)), some (.ref ru), some (.int (nI n2)), some (.int (nI k)), some (.ref rz), some (.ref ac), some (.int (nI s.length)), some (.int (nI (t))), x13] [] h9 P := by
    intro t h9 D9 x13 ht9 ha9 hb9 fy9 r
    subst ht9
    refine tX12_pass_86  (r := ?_)
    refine tX12_pass_88  (r := ?_)
    refine tX12_pass_90  (kf := fun c_ => by exfalso; (simp (disch := first | omega | decide) only [ci_lt, ci_le, ci_eq, ci_lt0, ci_ge0, ci_gt0, ci_le0, ci_eq0, ci_m1_lt, ci_m1_le, ci_lt_m1, ci_le_m1, ci_eq_m1, ci_m1_eq, not_true, not_false_iff, Nat.not_lt, Nat.not_le] at c_ <;> omega)) (kt := fun _ => ?_)
    exact r h9 D9 _ _ ha9 hb9 (by rw [List.drop_length]; rfl) fy9
  intro n
  induction n with
  | zero => exact fun t h9 D9 x13 h1_ h2_ => ex t h9 D9 x13 (by omega)
  | succ n ih =>
    intro t h9 D9 x13 h1_ h2_ ha9 hb9 fy9 r
    by_cases hie : t = s.length
    · exact ex t h9 D9 x13 hie ha9 hb9 fy9 r
    have hi2 : t < s.length := by omega
    have g9 := fy9.1
    obtain ⟨z, ef, qz⟩ := qa t hi2
    have qz9 := qz.kp fy9.i
    have okt := ok _ (List.getElem_mem hi2)
    refine tX12_pass_86  (r := ?_)
    refine tX12_pass_88  (r := ?_)
    refine tX12_pass_90  (kt := fun c_ => by exfalso; (simp (disch := first | omega | decide) only [ci_lt, ci_le, ci_eq, ci_lt0, ci_ge0, ci_gt0, ci_le0, ci_eq0, ci_m1_lt, ci_m1_le, ci_lt_m1, ci_le_m1, ci_eq_m1, ci_m1_eq, not_true, not_false_iff, Nat.not_lt, Nat.not_le] at c_ <;> omega)) (kf := fun _ => ?_)
    refine tX12_pass_93  (r := ?_)
    refine tX12_pass_95  (r := ?_)
    refine tX12_pass_97 (t := 8) (ha := (fy9.at aa (nmt7 (by decide)))) (ht := rfl) (hx := rfl) (hj := hi2) (hn := (by omega)) (hf := ef) (r := ?_)
    refine tX12_pass_98  (r := ?_)
    refine tX12_pass_100  (r := ?_)
    refine tX12_pass_102  (r := ?_)
    refine tX12_pass_103  (r := ?_)
    refine tX12_pass_105 (hd := (by omega)) (ha := qz9.2.choose_spec.1) (call := s_hact (d := d - 1) (by omega) hb9 ha9 hi (by omega) (by omega) (nly i hi) nxy okt qz9) (k := ?_)
    rintro w1 ⟨ha1, fy1⟩
    refine tX12_pass_108  (r := ?_)
    rw [nI_add]
    refine tX12_pass_111 (r := ?_)
    refine ih (t + 1) w1 _ _ (by omega) (by omega) ha1 (doA_ok hb9 hi okt) ((fy9.trans fy1).sub (by omega) (by omega)) (fun h1 D1 x12 x13 p1 p2 p3 p4 => r h1 D1 x12 x13 p1 p2 ?_ p4)
    rw [p3, List.drop_eq_getElem_cons hi2]
    rfl
set_option maxHeartbeats 4000000 in
theorem s_hrules (hd : 14 ≤ d) (hb : BDok B D) (hi : i < bLi B) (ht : tn < h0.1) (h216 : 216 ≤ h0.1) (nly : ∀ i, i < bLi B → yl i ≠ tn) (nxy : ∀ j, j < bJa B → xj j ≠ tn) {m ru : Nat} {rs : List ERu} (r2 : rs.length ≤ 2) {f : Nat → Option Nat} (aa : At h0 ru (.inl (7, rs.length, .inr (.inr (.inr (.inr f)))))) (ok : ∀ e ∈ rs, okRu (bLa B) (bJa B) e) (qa : ∀ j (hj : j < rs.length), ∃ z, f j = some z ∧ RuR h0 z rs[j]) {P : OC → AH → Prop} : ∀ (n k : Nat) (h9 : AH) (x9 x10 x11 x12 x13 : Option Value), rs.length ≤ k + n → k ≤ rs.length → HaX h9 c B D Rs tn fo ja li xj yl rl jf lf → Fy h0 h9 tn (96 * k) (624 * k) → (∀ (h1 : AH) (D1 : DY) (x8 x9 x10 x11 x12 x13 : Option Value), HaX h1 c B D1 Rs tn fo ja li xj yl rl jf lf → BDok B D1 → D1 = (ldL B i D (rs.drop k)).1 → Fy h0 h1 tn 300 2000 → RQ G mX12_pass d 132 [some (.ref c), some (.int (nI (m + (ldL B i D (rs.drop k)).2))), some (.ref li), some (.int (nI (bLi B))), some (.int (nI i)), some (.ref (yl i)), some (.ref ru), some (.int (nI rs.length)), x8, x9, x10, x11, x12, x13] [] h1 P) → RQ G mX12_pass d 40 [some (.ref c), some (.int (nI m)), some (.ref li), some (.int (nI (bLi B))), some (.int (nI i)), some (.ref (yl i)), some (.ref ru), some (.int (nI rs.length)), some (.int (nI (k))), x9, x10, x11, x12, x13] [] h9 P := by
  have ex : ∀ (k : Nat) (h9 : AH) (x9 x10 x11 x12 x13 : Option Value), k = rs.length → HaX h9 c B D Rs tn fo ja li xj yl rl jf lf → Fy h0 h9 tn (96 * k) (624 * k) → (∀ (h1 : AH) (D1 : DY) (x8 x9 x10 x11 x12 x13 : Option Value), HaX h1 c B D1 Rs tn fo ja li xj yl rl jf lf → BDok B D1 → D1 = (ldL B i D (rs.drop k)).1 → Fy h0 h1 tn 300 2000 → RQ G mX12_pass d 132 [some (.ref c), some (.int (nI (m + (ldL B i D (rs.drop k)).2))), some (.ref li), some (.int (nI (bLi B))), some (.int (nI i)), some (.ref (yl i)), some (.ref ru), some (.int (nI rs.length)), x8, x9, x10, x11, x12, x13] [] h1 P) → RQ G mX12_pass d 40 [some (.ref c), some (.int (nI m)), some (.ref li), some (.int (nI (bLi B))), some (.int (nI i)), some (.ref (yl i)), some (.ref ru), some (.int (nI rs.length)), some (.int (nI (k))), x9, x10, x11, x12, x13] [] h9 P := by
    intro k h9 x9 x10 x11 x12 x13 ht9 ha9 fy9 r
    subst ht9
    refine tX12_pass_40  (r := ?_)
    refine tX12_pass_42  (r := ?_)
    refine tX12_pass_44  (kf := fun c_ => by exfalso; (simp (disch := first | omega | decide) only [ci_lt, ci_le, ci_eq, ci_lt0, ci_ge0, ci_gt0, ci_le0, ci_eq0, ci_m1_lt, ci_m1_le, ci_lt_m1, ci_le_m1, ci_eq_m1, ci_m1_eq, not_true, not_false_iff, Nat.not_lt, Nat.not_le] at c_ <;> omega)) (kt := fun _ => ?_)
    have r9 := r h9 D (some (.int (nI rs.length))) x9 x10 x11 x12 x13 ha9 hb (by rw [List.drop_length]; rfl) (fy9.sub (by omega) (by omega))
    rw [List.drop_length] at r9
    exact r9
  intro n
  induction n with
  | zero => exact fun k h9 x9 x10 x11 x12 x13 h1_ h2_ => ex k h9 x9 x10 x11 x12 x13 (by omega)
  | succ n ih =>
    intro k h9 x9 x10 x11 x12 x13 h1_ h2_ ha9 fy9 r
    by_cases hie : k = rs.length
    · exact ex k h9 x9 x10 x11 x12 x13 hie ha9 fy9 r
    have hi2 : k < rs.length := by omega
    have g9 := fy9.1
    obtain ⟨rz, ef, qz⟩ := qa k hi2
    obtain ⟨zb, zx, zy, zf, z2, z3, z4, z5, z6⟩ := qz.kp fy9.i
    have okr := ok _ (List.getElem_mem hi2)
    have ed : rs.drop k = rs[k] :: rs.drop (k + 1) := List.drop_eq_getElem_cons hi2
    refine tX12_pass_40  (r := ?_)
    refine tX12_pass_42  (r := ?_)
    refine tX12_pass_44  (kt := fun c_ => by exfalso; (simp (disch := first | omega | decide) only [ci_lt, ci_le, ci_eq, ci_lt0, ci_ge0, ci_gt0, ci_le0, ci_eq0, ci_m1_lt, ci_m1_le, ci_lt_m1, ci_le_m1, ci_eq_m1, ci_m1_eq, not_true, not_false_iff, Nat.not_lt, Nat.not_le] at c_ <;> omega)) (kf := fun _ => ?_)
    refine tX12_pass_47  (r := ?_)
    refine tX12_pass_49  (r := ?_)
    refine tX12_pass_51 (t := 7) (ha := (fy9.at aa (nmt7 (by decide)))) (ht := rfl) (hx := rfl) (hj := hi2) (hn := (by omega)) (hf := ef) (r := ?_)
    refine tX12_pass_52  (r := ?_)
    refine tX12_pass_54  (r := ?_)
    refine tX12_pass_56 (ha := z2) (hv := rfl) (r := ?_)
    refine tX12_pass_59  (r := ?_)
    refine tX12_pass_60  (r := ?_)
    refine tX12_pass_62 (hd := (by omega)) (ha := z3.at.choose_spec) (call := s_nvT1 (d := d - 1) (by omega) hb ha9 hi okr.1 z3) (k := ?_)
    rintro v1 w1 ⟨ev1, ch1⟩
    rw [ev1]
    have k1 := Ch.k60 ch1
    have ha1 := ha9.k6 k1
    have fy1 := fy9.trans (Ch.fy ch1 tn)
    have g1 := fy1.1
    refine tX12_pass_65  (kt := fun c_65 => ?_) (kf := fun c_65 => ?_)
    · have ez : ¬ vT1 B D i rs[k].1 = 0 := c_65
      refine tX12_pass_71  (r := ?_)
      refine tX12_pass_73 (ha := (k1.at zb z2)) (hv := rfl) (r := ?_)
      refine tX12_pass_76  (r := ?_)
      refine tX12_pass_78  (r := ?_)
      refine tX12_pass_80 (t := 8) (ha := (k1.at z4 z5)) (ht := rfl) (r := ?_)
      refine tX12_pass_81  (r := ?_)
      refine tX12_pass_83  (r := ?_)
      refine tX12_pass_84  (r := ?_)
      have aw1 := k1.at z4 z5
      refine s_hacts (h0 := w1) (by omega) hi (by omega) (by omega) nly nxy okr.2.1 aw1 okr.2.2 (fun j hj => (z6 j hj).imp (fun z w => ⟨w.1, w.2.kp k1.i⟩)) rs[k].2.length 0 w1 D _ (by omega) (Nat.zero_le _) ha1 hb (Fy.rf w1 tn _ _) (fun h1 D1 x12 x13 p1 p2 p3 p4 => ?_)
      have z29 := p4.at (k1.at zb z2) (Or.inl ⟨_, _, rfl, by decide, by decide, by decide⟩)
      have z59 := p4.at aw1 (nmt7 (by decide))
      refine tX12_pass_114  (r := ?_)
      refine tX12_pass_115  (r := ?_)
      refine tX12_pass_117 (ha := z29) (hv := rfl) (r := ?_)
      refine tX12_pass_120 (t := 8) (ha := z59) (ht := rfl) (r := ?_)
      refine tX12_pass_121  (r := ?_)
      rw [nI_add]
      refine tX12_pass_122  (r := ?_)
      refine tX12_pass_123 (r := ?_)
      have l3 := okr.2.1
      have r9 := r h1 D1 (some (.int (nI k))) (some (.ref rz)) (some (.ref zy)) (some (.int (nI rs[k].2.length))) x12 x13 p1 p2 (by rw [p3, ed, ldL, if_neg ez]; rfl) ((fy1.trans p4).sub (by omega) (by omega))
      rw [ed, ldL, if_neg ez] at r9
      exact r9
    · have ez : vT1 B D i rs[k].1 = 0 := c_65
      refine tX12_pass_68 (r := ?_)
      refine tX12_pass_126  (r := ?_)
      rw [nI_add]
      refine tX12_pass_129 (r := ?_)
      refine ih (k + 1) w1 _ _ _ _ _ (by omega) (by omega) ha1 (fy1.sub (by omega) (by omega)) (fun h1 D1 x8 x9 x10 x11 x12 x13 p1 p2 p3 p4 => ?_)
      have r9 := r h1 D1 x8 x9 x10 x11 x12 x13 p1 p2 (by rw [p3, ed, ldL, if_pos ez]) p4
      rw [ed, ldL, if_pos ez] at r9
      exact r9
set_option maxHeartbeats 4000000 in
theorem s_hpass_l (hd : 14 ≤ d) (hb : BDok B D) (ht : tn < h0.1) (h216 : 216 ≤ h0.1) (nly : ∀ i, i < bLi B → yl i ≠ tn) (nxy : ∀ j, j < bJa B → xj j ≠ tn) (nct : c ≠ tn) (okR : ∀ i, i < bLi B → (Rs i).length ≤ 2 ∧ ∀ e ∈ Rs i, okRu (bLa B) (bJa B) e) (LA : ∀ i, i < bLi B → LiAt B i (Rs i)) : ∀ (nn i : Nat) (h9 : AH) (x5 x6 x7 x8 x9 x10 x11 x12 x13 : Option Value), bLi B ≤ i + nn → i ≤ bLi B → HaX h9 c B (dsN B D i).1 Rs tn fo ja li xj yl rl jf lf → BDok B (dsN B D i).1 → Fy h0 h9 tn (300 * i) (2000 * i) → RQ G mX12_pass d 13 [some (.ref c), some (.int (nI (dsN B D (i)).2)), some (.ref li), some (.int (nI (bLi B))), some (.int (nI (i))), x5, x6, x7, x8, x9, x10, x11, x12, x13] [] h9 (Ri fun r h1 => r = nI (dsN B D (bLi B)).2 ∧ HaX h1 c B (dyD (dsN B D (bLi B)).1) Rs tn fo ja li xj yl rl jf lf ∧ Fy h0 h1 tn (300 * bLi B) (2000 * bLi B)) := by
  have ex : ∀ (i : Nat) (h9 : AH) (x5 x6 x7 x8 x9 x10 x11 x12 x13 : Option Value), i = bLi B → HaX h9 c B (dsN B D i).1 Rs tn fo ja li xj yl rl jf lf → BDok B (dsN B D i).1 → Fy h0 h9 tn (300 * i) (2000 * i) → RQ G mX12_pass d 13 [some (.ref c), some (.int (nI (dsN B D (i)).2)), some (.ref li), some (.int (nI (bLi B))), some (.int (nI (i))), x5, x6, x7, x8, x9, x10, x11, x12, x13] [] h9 (Ri fun r h1 => r = nI (dsN B D (bLi B)).2 ∧ HaX h1 c B (dyD (dsN B D (bLi B)).1) Rs tn fo ja li xj yl rl jf lf ∧ Fy h0 h1 tn (300 * bLi B) (2000 * bLi B)) := by
    intro i h9 x5 x6 x7 x8 x9 x10 x11 x12 x13 hi ha9 hb9 fy9
    subst hi
    have l6 := hb.2.2.1
    have g9 := fy9.1
    obtain ⟨ac, c216, ad⟩ := ha9.day
    refine tX12_pass_13  (r := ?_)
    refine tX12_pass_15  (r := ?_)
    refine tX12_pass_16  (kf := fun c_ => by exfalso; (simp (disch := first | omega | decide) only [ci_lt, ci_le, ci_eq, ci_lt0, ci_ge0, ci_gt0, ci_le0, ci_eq0, ci_m1_lt, ci_m1_le, ci_lt_m1, ci_le_m1, ci_eq_m1, ci_m1_eq, not_true, not_false_iff, Nat.not_lt, Nat.not_le] at c_ <;> omega)) (kt := fun _ => ?_)
    refine tX12_pass_138  (r := ?_)
    refine tX12_pass_139  (r := ?_)
    refine tX12_pass_140 (ha := ac) (hv := rfl) (r := ?_)
    refine tX12_pass_143  (r := ?_)
    refine tX12_pass_144  (r := ?_)
    refine tX12_pass_145 (ha := ac) (hlen := rfl) (r := ?_)
    refine tX12_pass_148  (r := ?_)
    refine tX12_pass_149  (hP := ?_)
    exact ⟨_, rfl, rfl, ad, fy9.set ac c216 (fun e => nct e) (nmtr (Or.inl rfl))⟩
  intro nn
  induction nn with
  | zero => exact fun i h9 x5 x6 x7 x8 x9 x10 x11 x12 x13 h1_ h2_ => ex i h9 x5 x6 x7 x8 x9 x10 x11 x12 x13 (by omega)
  | succ nn ih =>
    intro i h9 x5 x6 x7 x8 x9 x10 x11 x12 x13 h1_ h2_ ha9 hb9 fy9
    by_cases hi : i = bLi B
    · exact ex i h9 x5 x6 x7 x8 x9 x10 x11 x12 x13 hi ha9 hb9 fy9
    have hi2 : i < bLi B := by omega
    have l6 := hb.2.2.1
    have g9 := fy9.1
    obtain ⟨bj, ff, -, -, -, -, ⟨a10, a11⟩, -, a13, -⟩ := id ha9
    obtain ⟨l1, l2, l3, rf, l4, l5⟩ := a13 i hi2
    refine tX12_pass_13  (r := ?_)
    refine tX12_pass_15  (r := ?_)
    refine tX12_pass_16  (kt := fun c_ => by exfalso; (simp (disch := first | omega | decide) only [ci_lt, ci_le, ci_eq, ci_lt0, ci_ge0, ci_gt0, ci_le0, ci_eq0, ci_m1_lt, ci_m1_le, ci_lt_m1, ci_le_m1, ci_eq_m1, ci_m1_eq, not_true, not_false_iff, Nat.not_lt, Nat.not_le] at c_ <;> omega)) (kf := fun _ => ?_)
    refine tX12_pass_19  (r := ?_)
    refine tX12_pass_20  (r := ?_)
    refine tX12_pass_22 (t := 6) (ha := a10) (ht := rfl) (hx := rfl) (hj := hi2) (hn := (by omega)) (hf := (a11 i hi2)) (r := ?_)
    refine tX12_pass_23  (r := ?_)
    refine tX12_pass_25  (r := ?_)
    refine tX12_pass_27 (ha := l3) (hv := rfl) (r := ?_)
    refine tX12_pass_30  (r := ?_)
    refine tX12_pass_32  (r := ?_)
    refine tX12_pass_34 (t := 7) (ha := l4) (ht := rfl) (r := ?_)
    refine tX12_pass_35  (r := ?_)
    refine tX12_pass_37  (r := ?_)
    refine tX12_pass_38  (r := ?_)
    refine s_hrules (h0 := h9) (m := (dsN B D i).2) hd hb9 hi2 (by omega) (by omega) nly nxy (okR i hi2).1 l4 (okR i hi2).2 l5 (Rs i).length 0 h9 _ _ _ _ _ (by omega) (Nat.zero_le _) ha9 (Fy.rf h9 tn _ _) (fun h1 D1 x8 x9 x10 x11 x12 x13 p1 p2 p3 p4 => ?_)
    have el : ldV B i (dsN B D i).1 = ldL B i (dsN B D i).1 (Rs i) := ld_law (okR i hi2).2 (LA i hi2)
    have e1 : (dsN B D (i + 1)).1 = D1 := by
      show (ldV B i (dsN B D i).1).1 = D1
      rw [el, p3, List.drop_zero]
    have e2 : (dsN B D (i + 1)).2 = (dsN B D i).2 + (ldL B i (dsN B D i).1 ((Rs i).drop 0)).2 := by
      show (dsN B D i).2 + (ldV B i (dsN B D i).1).2 = _
      rw [el, List.drop_zero]
    rw [← e2]
    refine tX12_pass_132  (r := ?_)
    rw [nI_add]
    refine tX12_pass_135 (r := ?_)
    exact ih (i + 1) h1 _ _ _ _ _ _ _ _ _ (by omega) (by omega) (by rw [e1]; exact p1) (by rw [e1]; exact p2) ((fy9.trans p4).sub (by omega) (by omega))
set_option maxHeartbeats 4000000 in
theorem s_hpass (hd : 14 ≤ d) (hb : BDok B D) (ha : HaX h c B D Rs tn fo ja li xj yl rl jf lf) (ht : tn < h.1) (h216 : 216 ≤ h.1) (nly : ∀ i, i < bLi B → yl i ≠ tn) (nxy : ∀ j, j < bJa B → xj j ≠ tn) (nct : c ≠ tn) (okR : ∀ i, i < bLi B → (Rs i).length ≤ 2 ∧ ∀ e ∈ Rs i, okRu (bLa B) (bJa B) e) (LA : ∀ i, i < bLi B → LiAt B i (Rs i)) : RQ G mX12_pass d 0 [some (.ref c), none, none, none, none, none, none, none, none, none, none, none, none, none] [] h (Ri fun r h1 => r = nI (dsN B D (bLi B)).2 ∧ HaX h1 c B (dyD (dsN B D (bLi B)).1) Rs tn fo ja li xj yl rl jf lf ∧ Fy h h1 tn (300 * bLi B) (2000 * bLi B)) := by
  obtain ⟨bj, ff, -, a5, -, -, ⟨a10, a11⟩, -⟩ := id ha
  refine tX12_pass_0  (r := ?_)
  refine tX12_pass_1  (r := ?_)
  refine tX12_pass_2  (r := ?_)
  refine tX12_pass_3 (ha := a5) (hv := rfl) (r := ?_)
  refine tX12_pass_6  (r := ?_)
  refine tX12_pass_7  (r := ?_)
  refine tX12_pass_8 (t := 6) (ha := a10) (ht := rfl) (r := ?_)
  refine tX12_pass_9  (r := ?_)
  refine tX12_pass_10  (r := ?_)
  refine tX12_pass_11  (r := ?_)
  exact s_hpass_l (h0 := h) hd hb ht h216 nly nxy nct okR LA (bLi B) 0 h none none none none none none none none none (by omega) (by omega) ha hb (Fy.rf h tn _ _)
set_option maxHeartbeats 4000000 in
theorem s_hpasses_l (hd : 15 ≤ d) (hb : BDok B D) (ht : tn < h0.1) (h216 : 216 ≤ h0.1) (nly : ∀ i, i < bLi B → yl i ≠ tn) (nxy : ∀ j, j < bJa B → xj j ≠ tn) (nct : c ≠ tn) (okR : ∀ i, i < bLi B → (Rs i).length ≤ 2 ∧ ∀ e ∈ Rs i, okRu (bLa B) (bJa B) e) (LA : ∀ i, i < bLi B → LiAt B i (Rs i)) {u : Nat} (u9 : u < 1000) : ∀ (nn i : Nat) (h9 : AH), u ≤ i + nn → i ≤ u → HaX h9 c B (psN B D i).1 Rs tn fo ja li xj yl rl jf lf → Fy h0 h9 tn (300 * bLi B * i) (2000 * bLi B * i) → RQ G mX12_pass_ d 4 [some (.ref c), some (.int (nI u)), some (.int (nI (psN B D i).2)), some (.int (nI i))] [] h9 (Ri fun r h1 => r = nI (psN B D u).2 ∧ HaX h1 c B (psN B D u).1 Rs tn fo ja li xj yl rl jf lf ∧ Fy h0 h1 tn (300 * bLi B * u) (2000 * bLi B * u)) := by
  have ex : ∀ (i : Nat) (h9 : AH), i = u → HaX h9 c B (psN B D i).1 Rs tn fo ja li xj yl rl jf lf → Fy h0 h9 tn (300 * bLi B * i) (2000 * bLi B * i) → RQ G mX12_pass_ d 4 [some (.ref c), some (.int (nI u)), some (.int (nI (psN B D i).2)), some (.int (nI i))] [] h9 (Ri fun r h1 => r = nI (psN B D u).2 ∧ HaX h1 c B (psN B D u).1 Rs tn fo ja li xj yl rl jf lf ∧ Fy h0 h1 tn (300 * bLi B * u) (2000 * bLi B * u)) := by
    intro i h9 hi ha9 fy9
    subst hi
    have g9 := fy9.1
    obtain ⟨bj, ff, -, a5, -⟩ := id ha9
    refine tX12_pass__4  (r := ?_)
    refine tX12_pass__5  (r := ?_)
    refine tX12_pass__6  (kf := fun c_ => by exfalso; (simp (disch := first | omega | decide) only [ci_lt, ci_le, ci_eq, ci_lt0, ci_ge0, ci_gt0, ci_le0, ci_eq0, ci_m1_lt, ci_m1_le, ci_lt_m1, ci_le_m1, ci_eq_m1, ci_m1_eq, not_true, not_false_iff, Nat.not_lt, Nat.not_le] at c_ <;> omega)) (kt := fun _ => ?_)
    refine tX12_pass__22  (r := ?_)
    refine tX12_pass__23  (hP := ?_)
    exact ⟨_, rfl, rfl, ha9, fy9⟩
  intro nn
  induction nn with
  | zero => exact fun i h9 h1_ h2_ => ex i h9 (by omega)
  | succ nn ih =>
    intro i h9 h1_ h2_ ha9 fy9
    by_cases hi : i = u
    · exact ex i h9 hi ha9 fy9
    have hi2 : i < u := by omega
    have g9 := fy9.1
    obtain ⟨bj, ff, -, a5, -⟩ := id ha9
    refine tX12_pass__4  (r := ?_)
    refine tX12_pass__5  (r := ?_)
    refine tX12_pass__6  (kt := fun c_ => by exfalso; (simp (disch := first | omega | decide) only [ci_lt, ci_le, ci_eq, ci_lt0, ci_ge0, ci_gt0, ci_le0, ci_eq0, ci_m1_lt, ci_m1_le, ci_lt_m1, ci_le_m1, ci_eq_m1, ci_m1_eq, not_true, not_false_iff, Nat.not_lt, Nat.not_le] at c_ <;> omega)) (kf := fun _ => ?_)
    refine tX12_pass__9  (r := ?_)
    refine tX12_pass__10  (r := ?_)
    refine tX12_pass__11 (hd := (by omega)) (ha := a5) (call := s_hpass (d := d - 1) (by omega) (psN_ok hb i) ha9 (by omega) (by omega) nly nxy nct okR LA) (k := ?_)
    rintro v1 w1 ⟨ev1, ha1, fy1⟩
    rw [ev1]
    refine tX12_pass__14  (r := ?_)
    rw [nI_add]
    refine tX12_pass__15  (r := ?_)
    refine tX12_pass__16  (r := ?_)
    rw [nI_add]
    refine tX12_pass__19 (r := ?_)
    exact ih (i + 1) w1 (by omega) (by omega) ha1 ((fy9.trans fy1).sub (by rw [Nat.mul_succ]; exact Nat.le_refl _) (by rw [Nat.mul_succ]; exact Nat.le_refl _))
set_option maxHeartbeats 4000000 in
theorem s_hpasses (hd : 15 ≤ d) (hb : BDok B D) (ha : HaX h c B D Rs tn fo ja li xj yl rl jf lf) (ht : tn < h.1) (h216 : 216 ≤ h.1) (nly : ∀ i, i < bLi B → yl i ≠ tn) (nxy : ∀ j, j < bJa B → xj j ≠ tn) (nct : c ≠ tn) (okR : ∀ i, i < bLi B → (Rs i).length ≤ 2 ∧ ∀ e ∈ Rs i, okRu (bLa B) (bJa B) e) (LA : ∀ i, i < bLi B → LiAt B i (Rs i)) {u : Nat} (u9 : u < 1000) : RQ G mX12_pass_ d 0 [some (.ref c), some (.int (nI u)), none, none] [] h (Ri fun r h1 => r = nI (psN B D u).2 ∧ HaX h1 c B (psN B D u).1 Rs tn fo ja li xj yl rl jf lf ∧ Fy h h1 tn (300 * bLi B * u) (2000 * bLi B * u)) := by
  refine tX12_pass__0  (r := ?_)
  refine tX12_pass__1  (r := ?_)
  refine tX12_pass__2  (r := ?_)
  refine tX12_pass__3  (r := ?_)
  exact s_hpasses_l hd hb ht h216 nly nxy nct okR LA u9 u 0 h (by omega) (by omega) ha (Fy.rf h tn _ _)
end HD
